section LWX
variable {p : Program} {l : Launch} {e : Env} {R : Room} {s : State} {m : MethodId} {args : Array Value} {below : List Frame} {meth : Method} {c : Code} {H : Heap} {locs : List Loc} {cells slots : Nat} {Q : State → Prop}
variable {ls : Array Slot} {G : pG} {b : Nat} {xs : Nat → Int32}
theorem pret_intO {rt : Option FieldType} {ty : FieldType} (hr : rt = some ty) (hty : ty ≠ .long) {d K : Nat} {as : List Value} {L Lf : pHp} {rv : Option Value} (h0 : (pMt K).2.2.2.2.1 = rt) (h : pEx d K as L rv Lf) : ∃ x : Int32, rv = some (.int x) := by
  cases d with
  | zero => exact h.elim
  | succ d =>
    obtain ⟨-, n, h⟩ := h
    exact ploop_int (h0.trans hr) hty _ _ _ _ _ _ _ h
def pNoI (i : Instr) : Bool := match i with
  | .ireturn => false
  | _ => true
theorem pret_long {rt : Option FieldType} (hr : rt = some .long) {e : pEn} (hn : pNoI e.2.1 = true) {st : List Value} {rv : Option Value} (h : pRet rt e st = some rv) : ∃ x : Int64, rv = some (.long x) := by
  unfold pRet at h
  split at h
  · split at h
    · rename_i hi
      rw [hi] at hn
      cases hn
    · split at h
      · cases h; exact ⟨_, rfl⟩
      · cases h
    · split at h
      · cases hr
      · cases h
    · cases h
  · cases h
theorem ploop_long {call : pCl} {M : pMe} {tab : List pEn} (hr : M.2.2.2.2.1 = some .long) (hn : ∀ e ∈ tab, pNoI e.2.1 = true) : ∀ (n pc : Nat) (lv : pLv) (st : List Value) (L : pHp) (rv : Option Value) (Lf : pHp), pLoop call M tab n pc lv st L rv Lf → ∃ x : Int64, rv = some (.long x) := by
  intro n
  induction n with
  | zero => intro _ _ _ _ _ _ h; exact h.elim
  | succ n ih =>
    intro pc lv st L rv Lf h
    obtain ⟨e, he, -, -, h⟩ := h
    rcases h with ⟨h, -⟩ | ⟨t, -, h⟩ | ⟨q, r1, L1, -, -, h⟩
    · exact pret_long hr (hn e he) h
    · exact ih _ _ _ _ _ _ h
    · exact ih _ _ _ _ _ _ h
theorem pex_long {d K : Nat} {as : List Value} {L Lf : pHp} {v : Value} (hr : (pMt K).2.2.2.2.1 = some .long) (hn : ∀ e ∈ pTs.getD K [], pNoI e.2.1 = true) (h : pEx d K as L (some v) Lf) : ∃ x : Int64, v = .long x := by
  cases d with
  | zero => exact h.elim
  | succ d =>
    obtain ⟨-, n, h⟩ := h
    obtain ⟨x, hx⟩ := ploop_long hr hn _ _ _ _ _ _ _ h
    exact ⟨x, Option.some.inj hx⟩
theorem pno_94 : ∀ e ∈ pTs.getD 94 [], pNoI e.2.1 = true := by decide +kernel
theorem lw_cmp0 (x : Int64) : lg_cmp x x = 0 := by simp [lg_cmp]
theorem lw_bool {pc : Nat} {x : Int32} {rest : List Value} (hx : p.tables.exec = Jvm.exec) (hb : c.code = cL_law) (d0 : decode cL_law pc = .ok (.ifCond .eq 7, 3)) (d3 : decode cL_law (pc + 3) = .ok (.iconst 1, 1)) (d4 : decode cL_law (pc + 4) = .ok (.goto 4, 3)) (d7 : decode cL_law (pc + 7) = .ok (.iconst 0, 1))
    (kk : ∀ y : Int32, (y = 0 ∨ y = 1) → y = (if x = 0 then 0 else 1) → W p l e R s m args below meth c H locs cells slots Q (F0 m (pc + 8) ls (.int y :: rest))) : W p l e R s m args below meth c H locs cells slots Q (F0 m pc ls (.int x :: rest)) := by
  refine lv_if_eq hx hb d0 (tgt := pc + 7) (by omega) (fun h => ?_) (fun h => ?_)
  · exact lv_iconst hx hb (v := 0) d7 rfl (kk 0 (Or.inl rfl) (by rw [if_pos h]))
  · exact lv_iconst hx hb (v := 1) d3 rfl (lv_goto hx hb d4 (tgt := pc + 8) (by omega) (kk 1 (Or.inr rfl) (by rw [if_neg h])))
theorem lw_e91 : ∃ q : pOb, fE[91]? = some q ∧ q.1 = 12 := ⟨_, rfl, rfl⟩
set_option maxRecDepth 100000 in
set_option maxHeartbeats 4000000 in
theorem lc_10 (F : lw_Fx G cL_law p R s m args c) (hX : va_X b 6 xs s s.heap) (hbl : b < s.heap.size) (hbA : ¬ pA G b) (hH0 : pH G [] s.heap) (hH : pH G fF H) (hlo : ∀ q ∈ locs, pB G ≤ q.base) (hl : lv_has ls 7 (lw_lv G b)) (hc : cells ≤ 200) (hs : slots ≤ 1000000) (hRc : 200000 ≤ R.cells) (hRs : 5000000 ≤ R.slots)
    (kk : ∀ H1 locs1 cells1 slots1, va_S (pA G) s.heap H1 locs1 → cells1 ≤ 200000 → slots1 ≤ 5000000 → W p l e R s m args below meth c H1 locs1 cells1 slots1 Q (F0 m 1593 ls [])) : W p l e R s m args below meth c H locs cells slots Q (F0 m 645 ls []) := by
  obtain ⟨hx, hb, -⟩ := id F
  have a0 := lv_at hl 4 rfl
  have a1 := lv_at hl 3 rfl
  have a2 := lv_at hl 2 rfl
  have a4 := lv_at hl 0 rfl
  obtain ⟨v, L1, L2, e1, e2, z1, z2⟩ := cq_10 (xs 1) (xs 2) (xs 3) (xs 4)
  obtain ⟨x, rfl⟩ := pex_long rfl pno_94 e1
  have g1 := pex_mono _ _ _ _ _ _ e1
  have g2 := pex_mono _ _ _ _ _ _ e2
  obtain ⟨q0, hq0, ht0⟩ := lw_q0
  obtain ⟨q9, hq9, ht9⟩ := lw_q91
  obtain ⟨q91, hq91, ht91⟩ := pex_tag _ _ _ _ _ _ e1 91 q9 hq9
  have hS := ph_S hH0 hH (Nat.zero_le _) hlo
  refine lv_aload_n hx hb dL_law_645 rfl a1 ?_
  refine lw_push F hX hbl hbA hS a0 a4 (k := 1) (by decide) (by decide) rfl dL_law_646 dL_law_647 dL_law_649 dL_law_650 dL_law_651 ?_
  refine lw_push F hX hbl hbA hS a0 a4 (k := 2) (by decide) (by decide) rfl dL_law_652 dL_law_653 dL_law_655 dL_law_656 dL_law_657 ?_
  refine lw_push F hX hbl hbA hS a0 a4 (k := 3) (by decide) (by decide) rfl dL_law_658 dL_law_659 dL_law_661 dL_law_662 dL_law_663 ?_
  refine lw_push F hX hbl hbA hS a0 a4 (k := 4) (by decide) (by decide) rfl dL_law_664 dL_law_665 dL_law_667 dL_law_668 dL_law_669 ?_
  refine lw_callV F (K := 94) (o := 0) (as := [.int (xs 1), .int (xs 2), .int (xs 3), .int (xs 4)]) (by decide +kernel) (pt_4 _ (List.mem_of_getElem? (i := 164) rfl)) (pt_4 _ (List.mem_of_getElem? (i := 165) rfl)) (pt_4 _ (List.mem_of_getElem? (i := 163) rfl)) e1 rfl hq0 (ht0.trans rfl) (by decide) hH hlo hl (Nat.le_of_ble_eq_true rfl) dL_law_670 (by omega) (by omega) fun H1 locs1 h1 l1 => ?_
  have hS1 := ph_S hH0 h1 (Nat.zero_le _) l1
  refine lv_aload_n hx hb dL_law_673 rfl a2 ?_
  refine lw_push F hX hbl hbA hS1 a0 a4 (k := 1) (by decide) (by decide) rfl dL_law_674 dL_law_675 dL_law_677 dL_law_678 dL_law_679 ?_
  refine lw_push F hX hbl hbA hS1 a0 a4 (k := 2) (by decide) (by decide) rfl dL_law_680 dL_law_681 dL_law_683 dL_law_684 dL_law_685 ?_
  refine lw_push F hX hbl hbA hS1 a0 a4 (k := 3) (by decide) (by decide) rfl dL_law_686 dL_law_687 dL_law_689 dL_law_690 dL_law_691 ?_
  refine lw_push F hX hbl hbA hS1 a0 a4 (k := 4) (by decide) (by decide) rfl dL_law_692 dL_law_693 dL_law_695 dL_law_696 dL_law_697 ?_
  refine lw_callV F (K := 227) (o := 91) (as := [.int (xs 1), .int (xs 2), .int (xs 3), .int (xs 4)]) (by decide +kernel) (pt_8 _ (List.mem_of_getElem? (i := 93) rfl)) (pt_8 _ (List.mem_of_getElem? (i := 94) rfl)) (pt_8 _ (List.mem_of_getElem? (i := 92) rfl)) e2 rfl hq91 ((ht91.trans ht9).trans rfl) (by decide) h1 l1 hl (Nat.le_of_ble_eq_true rfl) dL_law_698 (by omega) (by omega) fun H2 locs2 h2 l2 => ?_
  refine W.lcmp (x := x) (y := x) (rest := []) hx hb dL_law_701 ?_
  exact lv_if_eq hx hb dL_law_702 (tgt := 1593) rfl (fun _ => kk _ _ _ _ (ph_S hH0 h2 (Nat.zero_le _) l2) (by omega) (by omega)) (fun h => absurd (lw_cmp0 x) h)
set_option maxRecDepth 100000 in
set_option maxHeartbeats 4000000 in
theorem lc_11 (F : lw_Fx G cL_law p R s m args c) (hX : va_X b 6 xs s s.heap) (hbl : b < s.heap.size) (hbA : ¬ pA G b) (hH0 : pH G [] s.heap) (hH : pH G fF H) (hlo : ∀ q ∈ locs, pB G ≤ q.base) (hl : lv_has ls 7 (lw_lv G b)) (hc : cells ≤ 200) (hs : slots ≤ 1000000) (hRc : 200000 ≤ R.cells) (hRs : 5000000 ≤ R.slots)
    (kk : ∀ H1 locs1 cells1 slots1, va_S (pA G) s.heap H1 locs1 → cells1 ≤ 200000 → slots1 ≤ 5000000 → W p l e R s m args below meth c H1 locs1 cells1 slots1 Q (F0 m 1593 ls [])) : W p l e R s m args below meth c H locs cells slots Q (F0 m 707 ls []) := by
  obtain ⟨hx, hb, -⟩ := id F
  have a0 := lv_at hl 4 rfl
  have a1 := lv_at hl 3 rfl
  have a2 := lv_at hl 2 rfl
  have a4 := lv_at hl 0 rfl
  have hS := ph_S hH0 hH (Nat.zero_le _) hlo
  refine lv_aload_n hx hb dL_law_707 rfl a1 ?_
  refine lw_push F hX hbl hbA hS a0 a4 (k := 1) (by decide) (by decide) rfl dL_law_708 dL_law_709 dL_law_711 dL_law_712 dL_law_713 ?_
  refine lw_push F hX hbl hbA hS a0 a4 (k := 2) (by decide) (by decide) rfl dL_law_714 dL_law_715 dL_law_717 dL_law_718 dL_law_719 ?_
  refine lw_bool hx hb dL_law_720 dL_law_723 dL_law_724 dL_law_727 fun y hy ey => ?_
  obtain ⟨v, L1, L2, e1, e2, z1, z2⟩ := cq_11 (xs 1) y hy
  obtain ⟨x, rfl⟩ := pex_int (ty := .boolean) rfl nofun e1
  have g1 := pex_mono _ _ _ _ _ _ e1
  have g2 := pex_mono _ _ _ _ _ _ e2
  obtain ⟨q0, hq0, ht0⟩ := lw_q0
  obtain ⟨q9, hq9, ht9⟩ := lw_q91
  obtain ⟨q91, hq91, ht91⟩ := pex_tag _ _ _ _ _ _ e1 91 q9 hq9
  refine lw_callV F (K := 95) (o := 0) (as := [.int (xs 1), .int y]) (by decide +kernel) (pt_4 _ (List.mem_of_getElem? (i := 171) rfl)) (pt_4 _ (List.mem_of_getElem? (i := 172) rfl)) (pt_4 _ (List.mem_of_getElem? (i := 170) rfl)) e1 rfl hq0 (ht0.trans rfl) (by decide) hH hlo hl (Nat.le_of_ble_eq_true rfl) dL_law_728 (by omega) (by omega) fun H1 locs1 h1 l1 => ?_
  have hS1 := ph_S hH0 h1 (Nat.zero_le _) l1
  refine lv_aload_n hx hb dL_law_731 rfl a2 ?_
  refine lw_push F hX hbl hbA hS1 a0 a4 (k := 1) (by decide) (by decide) rfl dL_law_732 dL_law_733 dL_law_735 dL_law_736 dL_law_737 ?_
  refine lw_push F hX hbl hbA hS1 a0 a4 (k := 2) (by decide) (by decide) rfl dL_law_738 dL_law_739 dL_law_741 dL_law_742 dL_law_743 ?_
  refine lw_bool hx hb dL_law_744 dL_law_747 dL_law_748 dL_law_751 fun z hz ez => ?_
  obtain rfl : z = y := ez.trans ey.symm
  refine lw_callV F (K := 228) (o := 91) (as := [.int (xs 1), .int z]) (by decide +kernel) (pt_8 _ (List.mem_of_getElem? (i := 98) rfl)) (pt_8 _ (List.mem_of_getElem? (i := 99) rfl)) (pt_8 _ (List.mem_of_getElem? (i := 97) rfl)) e2 rfl hq91 ((ht91.trans ht9).trans rfl) (by decide) h1 l1 hl (Nat.le_of_ble_eq_true rfl) dL_law_752 (by omega) (by omega) fun H2 locs2 h2 l2 => ?_
  exact lv_icmp_eq hx hb dL_law_755 rfl (fun _ => kk _ _ _ _ (ph_S hH0 h2 (Nat.zero_le _) l2) (by omega) (by omega)) (fun h => absurd rfl h)
theorem lk_csw (hRf : 14 ≤ R.frames) (hRl : 2700 ≤ R.locals) (hts : ∀ w ∈ lw_tbl, w.before args s = true) : vx_CSW R s args "UphillCartsLaw" 39 yL_look cL_look 5 (some .int) [(0, 10, 13, 13), (0, 10, 17, 15)] lk_W2 (pRm 13 1 6) 1 6 4 := by
  refine ⟨⟨rfl, rfl, hRf, ?_, pay_in hts lk_good2, List.mem_cons_self⟩, hts _ (lk_good2 _ List.mem_cons_self).1, hts _ (pt_1 _ (List.mem_of_getElem? (i := 0) rfl)), ⟨by decide +kernel, by decide +kernel⟩, fun sig h => ?_, hts _ (pt_6 _ (List.mem_of_getElem? (i := 0) rfl)), hts _ (pt_6 _ (List.mem_of_getElem? (i := 1) rfl))⟩
  · show 8 + (5 + 11) + 200 * 13 ≤ R.locals
    omega
  · have h2 : (parseMethodDescriptor yL_look.desc).map (fun d => d.parameters.length) = some 4 := by decide +kernel
    rw [h] at h2
    exact (Option.some.inj h2).symm
set_option maxRecDepth 100000 in
set_option maxHeartbeats 4000000 in
theorem lc_4 (F : lw_Fx G cL_law p R s m args c) (hX : va_X b 6 xs s s.heap) (hbl : b < s.heap.size) (hbA : ¬ pA G b) (hH0 : pH G [] s.heap) (hH : pH G fF H) (hlo : ∀ q ∈ locs, pB G ≤ q.base) (hl : lv_has ls 7 (lw_lv G b)) (hc : cells ≤ 200) (hs : slots ≤ 1000000) (hRc : 200000 ≤ R.cells) (hRs : 5000000 ≤ R.slots)
    {sa : Nat} (hfl : l.stackTraces = false) (hXk : lk_X G sa s) (hRf : 14 ≤ R.frames) (hRl : 2700 ≤ R.locals)
    (kk : ∀ H1 locs1 cells1 slots1 ls1, lv_has ls1 7 (lw_lv G b) → va_S (pA G) s.heap H1 locs1 → cells1 ≤ 200000 → slots1 ≤ 5000000 → W p l e R s m args below meth c H1 locs1 cells1 slots1 Q (F0 m 1593 ls1 [])) : W p l e R s m args below meth c H locs cells slots Q (F0 m 380 ls []) := by
  obtain ⟨hx, hb, hml, hown, hts, hK, hfr, hlc, hTab⟩ := id F
  have a0 := lv_at hl 4 rfl
  have a1 := lv_at hl 3 rfl
  have a3 := lv_at hl 1 rfl
  have a4 := lv_at hl 0 rfl
  obtain ⟨v, L1, L2, e1, e2, z1, z2⟩ := cov_4 (xs 1) (xs 2)
  obtain ⟨y, rfl⟩ := pret_intO (ty := .int) rfl nofun rfl e1
  have g1 := pex_mono _ _ _ _ _ _ e1
  have g2 := pex_mono _ _ _ _ _ _ e2
  obtain ⟨q9, hq9, ht9⟩ := lw_e91
  obtain ⟨q91, hq91, ht91⟩ := pex_tag _ _ _ _ _ _ e1 91 q9 hq9
  have hS := ph_S hH0 hH (Nat.zero_le _) hlo
  refine lv_aload_n hx hb dL_law_380 rfl a1 ?_
  refine lw_push F hX hbl hbA hS a0 a4 (k := 1) (by decide) (by decide) rfl dL_law_381 dL_law_382 dL_law_384 dL_law_385 dL_law_386 ?_
  refine lw_push F hX hbl hbA hS a0 a4 (k := 2) (by decide) (by decide) rfl dL_law_387 dL_law_388 dL_law_390 dL_law_391 dL_law_392 ?_
  refine lv_aload_n hx hb dL_law_393 rfl a3 ?_
  refine ps_call (G := G) (as := [.ref (pB G + 0), .int (xs 1), .int (xs 2), .ref (pB G + 131)]) (vx_runSW (As := [.ref (pB G + 0), .int (xs 1), .int (xs 2), .ref (pB G + 131)]) (rest := []) (nL := 7) ⟨hx, hb, hml, hown, hts⟩ (lk_met2 hfl G hTab sa (xs 1) (xs 2)) (lk_csw hRf hRl hts) ⟨lk_blind, fun U hU hW => ⟨rfl, by rw [hU]; exact hH, hK.warm hW, hXk.warm hW⟩⟩ rfl rfl hl.1 rfl (lv_room (Nat.le_of_ble_eq_true rfl)) dL_law_394 ⟨by omega, by omega⟩) hlo fun H0 locs0 h0 l0 => ?_
  have hS0 := ph_S hH0 h0 (Nat.zero_le _) l0
  show W p l e R s m args below meth c H0 locs0 (cells + 1) (slots + 6) Q (F0 m 397 ls [.int 1])
  refine lv_istore hx hb dL_law_397 hl (by decide) rfl fun ls2 hl2 => ?_
  have b0 := lv_at hl2 5 rfl
  have b2 := lv_at hl2 3 rfl
  have b4 := lv_at hl2 1 rfl
  refine lv_aload_n hx hb dL_law_399 rfl b2 ?_
  refine lw_push F hX hbl hbA hS0 b0 b4 (k := 1) (by decide) (by decide) rfl dL_law_400 dL_law_401 dL_law_403 dL_law_404 dL_law_405 ?_
  refine lw_push F hX hbl hbA hS0 b0 b4 (k := 2) (by decide) (by decide) rfl dL_law_406 dL_law_407 dL_law_409 dL_law_410 dL_law_411 ?_
  refine lw_callV F (K := 204) (o := 91) (as := [.int (xs 1), .int (xs 2)]) (by decide +kernel) (pt_7 _ (List.mem_of_getElem? (i := 236) rfl)) (pt_7 _ (List.mem_of_getElem? (i := 237) rfl)) (pt_7 _ (List.mem_of_getElem? (i := 235) rfl)) e1 rfl hq9 (ht9.trans rfl) (by decide) h0 l0 hl2 (Nat.le_of_ble_eq_true rfl) dL_law_412 (by omega) (by omega) fun H1 locs1 h1 l1 => ?_
  refine lv_istore hx hb dL_law_415 (x := y) hl2 (by decide) rfl fun ls3 hl3 => ?_
  refine lv_aload_n hx hb dL_law_417 rfl (lv_at hl3 4 rfl) ?_
  refine lw_callV F (K := 168) (o := 91) (as := []) (by decide +kernel) (pt_7 _ (List.mem_of_getElem? (i := 92) rfl)) (pt_7 _ (List.mem_of_getElem? (i := 93) rfl)) (pt_7 _ (List.mem_of_getElem? (i := 91) rfl)) e2 rfl hq91 ((ht91.trans ht9).trans rfl) (by decide) h1 l1 hl3 (Nat.le_of_ble_eq_true rfl) dL_law_418 (by omega) (by omega) fun H2 locs2 h2 l2 => ?_
  refine lv_iload hx hb dL_law_421 (lv_at hl3 1 rfl) ?_
  refine lv_icmp_eq hx hb dL_law_423 (tgt := 428) rfl (fun _ => ?_) (fun h => absurd rfl h)
  refine lv_iload hx hb dL_law_428 (lv_at hl3 1 rfl) ?_
  refine lv_if_ne hx hb dL_law_430 (tgt := 445) rfl (fun _ => ?_) (fun h => absurd h (by decide))
  refine lv_goto hx hb dL_law_445 (tgt := 1593) rfl ?_
  exact kk _ _ _ _ _ (lv_sub hl3 [2, 3, 4, 5, 6] rfl) (ph_S hH0 h2 (Nat.zero_le _) l2) (by omega) (by omega)
end LWX
