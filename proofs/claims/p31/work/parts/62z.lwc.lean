/-! THE LAW'S OWN CALLS. -/
section LWC
variable {p : Program} {l : Launch} {e : Env} {R : Room} {s : State} {m : MethodId} {args : Array Value} {below : List Frame} {meth : Method} {c : Code} {H : Heap} {locs : List Loc} {cells slots : Nat} {Q : State → Prop}
variable {pc : Nat} {ls : Array Slot} {G : pG} {cc : ByteArray}
/-- what holds of the law's frame -/
def lw_Fx (G : pG) (cc : ByteArray) (p : Program) (R : Room) (s : State) (m : MethodId) (args : Array Value) (c : Code) : Prop :=
  p.tables.exec = Jvm.exec ∧ c.code = cc ∧ c.maxLocals = 7 ∧ s.vm.findClass "UphillCartsLaw" = some m.cls ∧ (∀ w ∈ lw_tbl, w.before args s = true) ∧ pKk G s ∧ 301 ≤ R.frames ∧ 60600 ≤ R.locals ∧ ∀ K, K < pMs.length → ∀ en ∈ pTs.getD K [], pOkE (pMt K).1 (pMt K).2.2.1 en = true
theorem lw_good {K : Nat} (h : K < pMs.length) : GoodIn lw_tbl (pWM (pMt K)) := by
  intro w hw
  rcases List.mem_cons.mp hw with rfl | hw
  · exact pAll_good _ (pa_m (pMt_mem h))
  · exact pAll_good _ hw
set_option maxHeartbeats 4000000 in
theorem lw_callV (F : lw_Fx G cc p R s m args c) {K o x : Nat} (hKl : K < pMs.length) (hj : pWj K ∈ lw_tbl) (hse : pWs K ∈ lw_tbl) (hlk : Cond.methodLink "UphillCartsLaw" x (pMy K) ∈ lw_tbl) {as rest : List Value} {r1 : Option Value} {L L1 : pHp} (hE : pEx 300 K (.ref o :: as) L r1 L1) (hn : as.length = (pMt K).2.2.2.2.2)
    {q : pOb} (hq : L[o]? = some q) (hq1 : q.1 = (pMt K).1) (h13 : (pMt K).1 < 13) (hH : pH G L H) (hlo : ∀ q ∈ locs, pB G ≤ q.base) {lv : List (Nat × Value)} (hl : lv_has ls 7 lv) (hcat : (rest.map fun v => v.category).sum ≤ 8) (hd : decode cc pc = .ok (.invokevirtual x, 3)) (hrc : cells + (L1.length - L.length) ≤ R.cells) (hrs : slots + (pSz L1 - pSz L) ≤ R.slots)
    (kk : ∀ H1 locs1, pH G L1 H1 → (∀ q ∈ locs1, pB G ≤ q.base) → W p l e R s m args below meth c H1 locs1 (cells + (L1.length - L.length)) (slots + (pSz L1 - pSz L)) Q (F0 m (pc + 3) ls ((r1.map (pSh G)).toList ++ rest))) : W p l e R s m args below meth c H locs cells slots Q (F0 m pc ls ((as.map (pSh G)).reverse ++ .ref (pB G + o) :: rest)) := by
  obtain ⟨hx, hb, hml, hown, hts, hK, hfr, hlc, hTab⟩ := id F
  have hmem := pMt_mem hKl
  obtain ⟨m1, m2, m3, m4, m5, m6, m7⟩ := pMok_of hmem
  have hall : ∀ w ∈ pAll, w.before args s = true := fun w hw => hts w (pAll_good w hw).1
  have hM := pSound l G hTab 300 K _ L r1 L1 hE hKl
  have hini2 : (Cond.initialized (pMy K).cls).before args s = true := by
    have h9 := hall _ (pa_z (pZz_all _ m7))
    unfold pWz at h9
    rw [← m1] at h9
    exact h9
  have hroom : (pRm 300 (L1.length - L.length) (pSz L1 - pSz L)).frames + 1 ≤ R.frames ∧ 8 + ((pMt K).2.2.2.1 + 11) + (pRm 300 (L1.length - L.length) (pSz L1 - pSz L)).locals ≤ R.locals := by
    refine ⟨hfr, ?_⟩
    show 8 + ((pMt K).2.2.2.1 + 11) + 200 * 300 ≤ R.locals
    omega
  have hcb := callB_of (R := R) (own := "UphillCartsLaw") (index := x) (pMt K).2.2.2.2.2 hts (lw_good hKl) rfl rfl rfl hini2 (hts _ hlk) ⟨m3, m4, m5⟩ hroom
  have hrecv : ∃ cellB : Cell, H[pB G + o]? = some cellB ∧ cellB.vm.isStatics = false ∧ s.vm.findClass (pMy K).cls = some cellB.cls := by
    obtain ⟨-, cell, g1, g2, g3, -⟩ := (hH.2.2 o q hq).obj (by omega)
    refine ⟨cell, g1, by rw [g3]; rfl, ?_⟩
    show s.vm.findClass (pMt K).2.1.cls = _
    rw [m1, g2, hq1]
    exact (hK.1.1 _ _ (pCl_at _ h13)).2.1
  have hlen : (as.map (pSh G)).length = (pMt K).2.2.2.2.2 := by rw [List.length_map]; exact hn
  exact ps_call (as := (.ref o :: as).map (pSh G)) (va_runV ⟨hx, hb, hml, hown, hts⟩ hM ⟨hcb, hts _ hj, hts _ hse⟩ ⟨ppc_blind, hrecv, fun U hU hW => ⟨rfl, by rw [hU]; exact hH, hK.warm hW⟩⟩ rfl hlen hl.1 rfl (lv_room hcat) hd ⟨hrc, hrs⟩) hlo kk
set_option maxHeartbeats 4000000 in
theorem lw_callI (F : lw_Fx G cc p R s m args c) {K o x : Nat} (hKl : K < pMs.length) (hj : pWj K ∈ lw_tbl) (hnm : (pMy K).name = "<init>") (hlk : Cond.methodLink "UphillCartsLaw" x (pMy K) ∈ lw_tbl) {rest : List Value} {L L1 : pHp} (hE : pEx 12 K [.ref o] L none L1) (hn : (pMt K).2.2.2.2.2 = 0)
    (hH : pH G L H) (hlo : ∀ q ∈ locs, pB G ≤ q.base) {lv : List (Nat × Value)} (hl : lv_has ls 7 lv) (hcat : (rest.map fun v => v.category).sum ≤ 8) (hd : decode cc pc = .ok (.invokespecial x, 3)) (hrc : cells + (L1.length - L.length) ≤ R.cells) (hrs : slots + (pSz L1 - pSz L) ≤ R.slots)
    (kk : ∀ H1 locs1, pH G L1 H1 → (∀ q ∈ locs1, pB G ≤ q.base) → W p l e R s m args below meth c H1 locs1 (cells + (L1.length - L.length)) (slots + (pSz L1 - pSz L)) Q (F0 m (pc + 3) ls rest)) : W p l e R s m args below meth c H locs cells slots Q (F0 m pc ls (.ref (pB G + o) :: rest)) := by
  obtain ⟨hx, hb, hml, hown, hts, hK, hfr, hlc, hTab⟩ := id F
  have hmem := pMt_mem hKl
  obtain ⟨m1, m2, m3, m4, m5, m6, m7⟩ := pMok_of hmem
  have hall : ∀ w ∈ pAll, w.before args s = true := fun w hw => hts w (pAll_good w hw).1
  have hM := pSound l G hTab 12 K _ L none L1 hE hKl
  have hini2 : (Cond.initialized (pMy K).cls).before args s = true := by
    have h9 := hall _ (pa_z (pZz_all _ m7))
    unfold pWz at h9
    rw [← m1] at h9
    exact h9
  have hroom : (pRm 12 (L1.length - L.length) (pSz L1 - pSz L)).frames + 1 ≤ R.frames ∧ 8 + ((pMt K).2.2.2.1 + 11) + (pRm 12 (L1.length - L.length) (pSz L1 - pSz L)).locals ≤ R.locals := by
    refine ⟨Nat.le_trans (Nat.le_of_ble_eq_true rfl) hfr, ?_⟩
    show 8 + ((pMt K).2.2.2.1 + 11) + 200 * 12 ≤ R.locals
    omega
  have hret2 : (pMt K).2.2.2.2.1 = none := pini_ret hmem hnm
  have hwm : pWM (pMt K) = Cond.code (pMy K) (pMt K).2.2.1 (pMt K).2.2.2.1 none :: pAll := by
    show Cond.code _ _ _ (pMt K).2.2.2.2.1 :: pAll = _
    rw [hret2]
    rfl
  have hcb := callB_of (R := R) (own := "UphillCartsLaw") (index := x) (pMt K).2.2.2.2.2 hts (lw_good hKl) hwm rfl rfl hini2 (hts _ hlk) ⟨m3, m4, m5⟩ hroom
  have hpre : PreS s H (pPc G [.ref o] L) [.ref (pB G + o)] := ⟨ppc_blind, fun U hU hW => ⟨rfl, by rw [hU]; exact hH, hK.warm hW⟩⟩
  exact ps_call (as := ([.ref o] : List Value).map (pSh G)) (va_runI (As := []) ⟨hx, hb, hml, hown, hts⟩ hM ⟨hcb, hnm, hts _ hj⟩ hpre rfl hn.symm hl.1 rfl (lv_room hcat) hd ⟨hrc, hrs⟩) hlo kk
theorem lw_ix {j : Nat} (h : j < 4096) : ¬ (Int32.ofNat j < 0) ∧ (Int32.ofNat j).toNatClampNeg = j := by
  have e : (Int32.ofNat j).toInt = (j : Int) := Int32.toInt_ofNat_of_lt (by omega)
  refine ⟨fun h2 => ?_, ?_⟩
  · rw [Int32.lt_iff_toInt_lt, e] at h2
    have h3 : (0 : Int32).toInt = 0 := rfl
    omega
  · show (Int32.ofNat j).toInt.toNat = j
    rw [e]
    rfl
/-- an argument out of the script -/
theorem lw_push (F : lw_Fx G cc p R s m args c) {b Ls k i : Nat} {xs : Nat → Int32} {n : Int} {rest : List Value} (hX : va_X b Ls xs s s.heap) (hbl : b < s.heap.size) (hbA : ¬ pA G b) (hS : va_S (pA G) s.heap H locs) (h0 : ls[0]? = some (.val (.ref b))) (h4 : ls[4]? = some (.val (.int (Int32.ofNat i)))) (hk : i + k < Ls) (hk6 : k < 6) (hLs : Ls ≤ 3072) (hn : Int32.ofInt n = Int32.ofNat k)
    (d0 : decode cc pc = .ok (.aload_n 0, 1)) (d1 : decode cc (pc + 1) = .ok (.iload 4, 2)) (d3 : decode cc (pc + 3) = .ok (.iconst n, 1)) (d4 : decode cc (pc + 4) = .ok (.iadd, 1)) (d5 : decode cc (pc + 5) = .ok (.iaload, 1))
    (kk : W p l e R s m args below meth c H locs cells slots Q (F0 m (pc + 6) ls (.int (xs (i + k)) :: rest))) : W p l e R s m args below meth c H locs cells slots Q (F0 m pc ls rest) := by
  obtain ⟨hx, hb, hml, hown, hts, hK, hfr, hlc, hTab⟩ := id F
  have ea : Int32.ofNat i + Int32.ofNat k = Int32.ofNat (i + k) := (Int32.ofNat_add i k).symm
  obtain ⟨i1, i2⟩ := lw_ix (j := i + k) (by omega)
  refine lv_aload_n hx hb d0 rfl h0 (lv_iload hx hb d1 h4 (lv_iconst hx hb d3 hn (lv_iadd hx hb d4 (va_sld hx hb hX hbl hbA hS ?_ d5 ?_))))
  · rw [ea]
    rintro (h | h)
    · exact i1 h
    · rw [i2] at h; omega
  · rw [ea, i2]; exact kk
theorem lw_new (F : lw_Fx G cc p R s m args c) {L : pHp} (hH : pH G L H) {x a : Nat} {st : List Value} (hlk : Cond.classLink "UphillCartsLaw" x (pR a) ∈ lw_tbl) (h2 : a < 13) (hc : cells + 1 ≤ R.cells) (hs : slots + pN a ≤ R.slots) (hd : decode cc pc = .ok (.new x, 3))
    (kk : ∀ H', pH G (L ++ [(a, pDef a)]) H' → W p l e R s m args below meth c H' locs (cells + 1) (slots + pN a) Q (F0 m (pc + 3) ls (.ref (pB G + L.length) :: st))) : W p l e R s m args below meth c H locs cells slots Q (F0 m pc ls st) := by
  obtain ⟨hx, hb, hml, hown, hts0, hK, hfr, hlc, hTab⟩ := id F
  have hts : ∀ w ∈ pAll, w.before args s = true := fun w hw => hts0 w (pAll_good w hw).1
  have hKn := hK.1.1 a _ (pCl_at a h2)
  refine W.newcK hx hb hown (hts0 _ hlk) (hts _ (pa_i (pIz_all a h2))) (hts _ (pa_z (pZz_all a (by omega)))) rfl hd hc hs hKn.2.1 hH.2.1 fun H1 kC hkC e1 z1 o1 => ?_
  refine kk H1 (ph_push hH (Or.inl ⟨h2, pDef_len a, ?_⟩) (by rw [z1, hH.2.1]) (fun z hz => o1 z (by rw [← hH.2.1]; exact hz)))
  exact (u_born (pTy a) hts (pLay_in h2) hKn hkC e1 (pTy_ok a h2)).to (fun j hj => pDef_at G h2 hj)
theorem lw_nX : fX.length = 91 := by decide +kernel
theorem lw_nM : (fX ++ fM).length = 131 := by decide +kernel
theorem lw_zX : pSz fX ≤ 400000 := by decide +kernel
theorem lw_zM : pSz (fX ++ fM) ≤ 400000 := by decide +kernel
set_option maxHeartbeats 4000000 in
/-- the two objects and the array, made -/
theorem lw_made (F : lw_Fx G cc p R s m args c) {b : Nat} (hH0 : pH G [] s.heap) (hl : lv_has ls 7 [(0, .ref b)]) (hRc : 200 ≤ R.cells) (hRs : 1000000 ≤ R.slots)
    (w8 : Cond.classLink "UphillCartsLaw" 8 (pR 11) ∈ lw_tbl) (w18 : Cond.classLink "UphillCartsLaw" 18 (pR 12) ∈ lw_tbl) (w17 : Cond.methodLink "UphillCartsLaw" 17 (pMy 0) ∈ lw_tbl) (w20 : Cond.methodLink "UphillCartsLaw" 20 (pMy 166) ∈ lw_tbl) (j0 : pWj 0 ∈ lw_tbl) (j166 : pWj 166 ∈ lw_tbl)
    (d0 : decode cc 0 = .ok (.new 8, 3)) (d3 : decode cc 3 = .ok (.dup, 1)) (d4 : decode cc 4 = .ok (.invokespecial 17, 3)) (d7 : decode cc 7 = .ok (.astore_n 1, 1)) (d8 : decode cc 8 = .ok (.new 18, 3)) (d11 : decode cc 11 = .ok (.dup, 1)) (d12 : decode cc 12 = .ok (.invokespecial 20, 3)) (d15 : decode cc 15 = .ok (.astore_n 2, 1))
    (d16 : decode cc 16 = .ok (.iconst 1, 1)) (d17 : decode cc 17 = .ok (.newarray .long, 2)) (d19 : decode cc 19 = .ok (.astore_n 3, 1)) (d20 : decode cc 20 = .ok (.iconst 0, 1)) (d21 : decode cc 21 = .ok (.istore 4, 2))
    (kk : ∀ H1 locs1 cells1 slots1 ls1, pH G fF H1 → (∀ q ∈ locs1, pB G ≤ q.base) → cells1 ≤ 200 → slots1 ≤ 1000000 → lv_has ls1 7 [(4, .int 0), (3, .ref (pB G + 131)), (2, .ref (pB G + 91)), (1, .ref (pB G + 0)), (0, .ref b)] → W p l e R s m args below meth c H1 locs1 cells1 slots1 Q (F0 m 23 ls1 [])) : W p l e R s m args below meth c s.heap [] 0 0 Q (F0 m 0 ls []) := by
  obtain ⟨hx, hb, hml, hown, hts0, hK, hfr, hlc, hTab⟩ := id F
  have hts : ∀ w ∈ pAll, w.before args s = true := fun w hw => hts0 w (pAll_good w hw).1
  have nX := lw_nX
  have nM := lw_nM
  have zX := lw_zX
  have zM := lw_zM
  have t1 : (Int32.ofInt 1).toNatClampNeg = 1 := by decide
  have p11 : pN 11 = 19 := rfl
  have p12 : pN 12 = 76 := rfl
  have n1 : ([(11, pDef 11)] : pHp).length = 1 := rfl
  have n2 : (fX ++ [(12, pDef 12)] : pHp).length = 92 := by rw [List.length_append, nX]; rfl
  refine lw_new F hH0 (a := 11) w8 (by decide) (by omega) (by omega) d0 fun H1 h1 => ?_
  refine lv_dup hx hb d3 rfl ?_
  refine lw_callI F (K := 0) (o := 0) (by decide +kernel) j0 rfl w17 cov_x rfl h1 (fun q hq => nomatch hq) hl (Nat.le_of_ble_eq_true rfl) d4 (by omega) (by omega) fun H2 locs2 h2 l2 => ?_
  refine lv_astore_n hx hb d7 rfl hl (by decide) rfl fun ls2 hl2 => ?_
  refine lw_new F h2 (a := 12) w18 (by decide) (by omega) (by omega) d8 fun H3 h3 => ?_
  rw [nX]
  refine lv_dup hx hb d11 rfl ?_
  refine lw_callI F (K := 166) (o := 91) (by decide +kernel) j166 rfl w20 cov_m rfl h3 l2 hl2 (Nat.le_of_ble_eq_true rfl) d12 (by omega) (by omega) fun H4 locs4 h4 l4 => ?_
  refine lv_astore_n hx hb d15 rfl hl2 (by decide) rfl fun ls4 hl4 => ?_
  refine lv_iconst hx hb d16 rfl ?_
  refine ps_newa hx hb hts hK h4 (g := 23) rfl (by decide) (by omega) (by rw [t1]; omega) d17 fun H5 h5 => ?_
  rw [nM]
  refine lv_astore_n hx hb d19 rfl hl4 (by decide) rfl fun ls5 hl5 => ?_
  refine lv_iconst hx hb d20 rfl ?_
  refine lv_istore hx hb d21 hl5 (by decide) rfl fun ls6 hl6 => ?_
  refine kk H5 locs4 _ _ ls6 ?_ l4 (by omega) (by rw [t1]; omega) hl6
  have e : fF = (fX ++ fM) ++ [(23, List.replicate (Int32.ofInt 1).toNatClampNeg (defaultValue (pAty 23)))] := by
    unfold fF
    rw [List.append_assoc]
    rfl
  rw [e]
  exact h5
theorem u_len (M M' : sM) (J : pHp) : (sHp sLay M' ++ J).length - (sHp sLay M ++ J).length = 0 := by
  rw [List.length_append, List.length_append, shp_len, shp_len, Nat.sub_self]
theorem u_szl (M : sM) : ∀ (lay : List sCl), pSz (sHp lay M) = (lay.map (fun c => c.2.length)).sum := by
  intro lay
  unfold pSz
  congr 1
  refine List.ext_getElem? fun j => ?_
  rw [List.getElem?_map, List.getElem?_map]
  cases h : lay[j]? with
  | none =>
    have h2 : (sHp lay M)[j]? = none := by
      rw [List.getElem?_eq_none_iff, shp_len]
      exact List.getElem?_eq_none_iff.mp h
    rw [h2]
    rfl
  | some c =>
    rw [shp_at h]
    show some (sCell M j c).2.length = some c.2.length
    rw [scell_len]
theorem u_sz (M M' : sM) (J : pHp) : pSz (sHp sLay M' ++ J) - pSz (sHp sLay M ++ J) = 0 := by
  have h : ∀ N : sM, pSz (sHp sLay N ++ J) = (sLay.map (fun c => c.2.length)).sum + pSz J := fun N => by
    rw [← u_szl N]
    unfold pSz
    rw [List.map_append, List.sum_append]
  rw [h, h, Nat.sub_self]
theorem lw_callU (F : lw_Fx G cc p R s m args c) {K o x : Nat} (hKl : K < pMs.length) (hj : pWj K ∈ lw_tbl) (hse : pWs K ∈ lw_tbl) (hlk : Cond.methodLink "UphillCartsLaw" x (pMy K) ∈ lw_tbl) {as rest : List Value} {r1 : Option Value} {M M' : sM} {J : pHp} (hE : pEx 300 K (.ref o :: as) (sHp sLay M ++ J) r1 (sHp sLay M' ++ J)) (hn : as.length = (pMt K).2.2.2.2.2)
    {c1 : sCl} (hq : sLay[o]? = some c1) (hq1 : c1.1 = (pMt K).1) (h13 : (pMt K).1 < 13) (hH : pH G (sHp sLay M ++ J) H) (hlo : ∀ q ∈ locs, pB G ≤ q.base) {lv : List (Nat × Value)} (hl : lv_has ls 7 lv) (hcat : (rest.map fun v => v.category).sum ≤ 8) (hd : decode cc pc = .ok (.invokevirtual x, 3)) (hrc : cells ≤ R.cells) (hrs : slots ≤ R.slots)
    (kk : ∀ H1 locs1, pH G (sHp sLay M' ++ J) H1 → (∀ q ∈ locs1, pB G ≤ q.base) → W p l e R s m args below meth c H1 locs1 cells slots Q (F0 m (pc + 3) ls ((r1.map (pSh G)).toList ++ rest))) : W p l e R s m args below meth c H locs cells slots Q (F0 m pc ls ((as.map (pSh G)).reverse ++ .ref (pB G + o) :: rest)) := by
  have e1 := u_len M M' J
  have e2 := u_sz M M' J
  refine lw_callV F hKl hj hse hlk hE hn (shj_at hq) hq1 h13 hH hlo hl hcat hd (by omega) (by omega) fun H1 locs1 h1 l1 => ?_
  rw [e1, e2]
  exact kk H1 locs1 h1 l1
/-- the law's locals -/
def lw_lvi (G : pG) (b i : Nat) : List (Nat × Value) := [(4, .int (Int32.ofNat i)), (3, .ref (pB G + 131)), (2, .ref (pB G + 91)), (1, .ref (pB G + 0)), (0, .ref b)]
theorem lw_bool {pc : Nat} {x : Int32} {rest : List Value} (hx : p.tables.exec = Jvm.exec) (hb : c.code = cL_law) (d0 : decode cL_law pc = .ok (.ifCond .eq 7, 3)) (d3 : decode cL_law (pc + 3) = .ok (.iconst 1, 1)) (d4 : decode cL_law (pc + 4) = .ok (.goto 4, 3)) (d7 : decode cL_law (pc + 7) = .ok (.iconst 0, 1))
    (kk : ∀ y : Int32, (y = 0 ∨ y = 1) → y = (if x = 0 then 0 else 1) → W p l e R s m args below meth c H locs cells slots Q (F0 m (pc + 8) ls (.int y :: rest))) : W p l e R s m args below meth c H locs cells slots Q (F0 m pc ls (.int x :: rest)) := by
  refine lv_if_eq hx hb d0 (tgt := pc + 7) (by omega) (fun h => ?_) (fun h => ?_)
  · exact lv_iconst hx hb (v := 0) d7 rfl (kk 0 (Or.inl rfl) (by rw [if_pos h]))
  · exact lv_iconst hx hb (v := 1) d3 rfl (lv_goto hx hb d4 (tgt := pc + 8) (by omega) (kk 1 (Or.inr rfl) (by rw [if_neg h])))
end LWC
