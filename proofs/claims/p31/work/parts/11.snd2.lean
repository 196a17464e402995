/-! A RUN of the small machine is one of the great one: the contract of every method out of its small run. -/
def pPc (G : pG) (as : List Value) (L : pHp) : Array Value → State → Prop := fun a U => a = (as.map (pSh G)).toArray ∧ pH G L U.heap ∧ pKk G U
def pQc (G : pG) (rv : Option Value) (Lf : pHp) : Array Value → State → Outcome → State → Prop := fun _ _ o t => o = .returned (rv.map (pSh G)) ∧ pH G Lf t.heap
def pRm (d mc ms : Nat) : Room := { frames := d, cells := mc, slots := ms, locals := 200 * d }
theorem ppc_blind {G : pG} {as : List Value} {L : pHp} : FrameBlind (pPc G as L) := fun _ U g mk h => ⟨h.1, h.2.1, pKk.same (u := U) rfl h.2.2⟩
theorem pMt_mem {K : Nat} (h : K < pMs.length) : pMt K ∈ pMs := by
  unfold pMt
  rw [List.getD_eq_getElem?_getD, List.getElem?_eq_getElem h]
  exact List.getElem_mem h
section SND2
variable {p : Program} {l : Launch} {e : Env} {R : Room} {s : State} {m : MethodId} {args : Array Value} {below : List Frame} {meth : Method} {c : Code} {H : Heap} {locs : List Loc} {cells slots : Nat} {Q : State → Prop}
variable {pc : Nat} {ls : Array Slot} {G : pG}
theorem pok_of {c0 : Nat} {cc : ByteArray} {en : pEn} (h : pOkE c0 cc en = true) (hlt : en.2.2.2 < 99999) : decode cc en.1 = .ok (en.2.1, en.2.2.1) ∧ pAux c0 en.2.1 en.2.2.2 = true := by
  unfold pOkE at h
  have hz : (en.2.2.2 == 999999) = false := by simp; omega
  rw [hz, Bool.false_or, Bool.and_eq_true, decide_eq_true_eq] at h
  exact h
theorem ps_step {M : pMe} {L0 : pHp} (F : pFx G M p R s m args meth c L0) {en : pEn} (hok : pOkE M.1 M.2.2.1 en = true) (hlt : en.2.2.2 < 99999) {lv : pLv} {st : List Value} {L : pHp} {t : Nat × pLv × List Value × pHp} (h : pStp M en lv st L t) (hH : pH G L H) (hlo : ∀ q ∈ locs, pB G ≤ q.base) (hl : lv_has ls M.2.2.2.1 (pLm G lv)) (hn : L0.length ≤ L.length) (hs : pSz L0 ≤ pSz L) (hcells : cells = L.length - L0.length) (hslots : slots = pSz L - pSz L0)
    (hrc : t.2.2.2.length - L0.length ≤ R.cells) (hrs : pSz t.2.2.2 - pSz L0 ≤ R.slots)
    (kk : ∀ H' locs' cells' slots' ls', pH G t.2.2.2 H' → (∀ q ∈ locs', pB G ≤ q.base) → lv_has ls' M.2.2.2.1 (pLm G t.2.1) → cells' = t.2.2.2.length - L0.length → slots' = pSz t.2.2.2 - pSz L0 → W p l e R s m args below meth c H' locs' cells' slots' Q (F0 m t.1 ls' (t.2.2.1.map (pSh G)))) : W p l e R s m args below meth c H locs cells slots Q (F0 m en.1 ls (st.map (pSh G))) := by
  obtain ⟨hd, ha⟩ := pok_of hok hlt
  obtain ⟨hx, hb, hml, hown, hini, hts0, hK, h0, hlk, hret, hfr, hlcl⟩ := id F
  have hts : ∀ w ∈ pAll, w.before args s = true := fun w hw => hts0 w (List.mem_cons_of_mem _ hw)
  have hV : pV1 G := hK.2.2.2.2.1
  rcases h with ⟨st', h1, rfl⟩ | ⟨lv', st', h1, rfl⟩ | ⟨pc', st', h1, rfl⟩ | ⟨st', h1, rfl⟩ | ⟨st', L', h1, rfl⟩
  · exact ps_stk hx hb hV h1 hd (kk H locs cells slots ls hH hlo hl hcells hslots)
  · exact ps_loc hx hb hV h1 hd hl (fun ls' h' => kk H locs cells slots ls' hH hlo h' hcells hslots)
  · exact ps_jmp hx hb h1 hd (kk H locs cells slots ls hH hlo hl hcells hslots)
  · exact ps_xtr hx hb hown hts hK h0 hH hn hlo h1 ha hd (kk H locs cells slots ls hH hlo hl hcells hslots)
  · exact ps_mem F hH hlo hl.1 hn hs hcells hslots hrc hrs h1 ha hd (fun H' locs' cells' slots' a1 a2 a3 a4 => kk H' locs' cells' slots' ls a1 a2 hl a3 a4)
theorem ps_call {as : List Value} {r1 : Option Value} {L1 : pHp} {mc ms : Nat} {st0 rest : List Value} (hr : va_Run p l e R s m args below meth c H locs cells slots mc ms (F0 m pc ls st0) rest (pQc G r1 L1 as.toArray) (pA G)) (hlo : ∀ q ∈ locs, pB G ≤ q.base)
    (kk : ∀ H1 locs1, pH G L1 H1 → (∀ q ∈ locs1, pB G ≤ q.base) → W p l e R s m args below meth c H1 locs1 (cells + mc) (slots + ms) Q (F0 m (pc + 3) ls ((r1.map (pSh G)).toList ++ rest))) : W p l e R s m args below meth c H locs cells slots Q (F0 m pc ls st0) := by
  intro T hT X
  obtain ⟨v, st₀, t, T', L', h0, X', hL, e1, e2, ⟨hv, hp⟩, st⟩ := hr T hT X
  cases hv
  obtain ⟨t2, a1, b1⟩ := kk T'.heap (locs ++ L') (by rw [e1]; exact hp) (fun q hq => (List.mem_append.mp hq).elim (hlo q) (hL q)) T' rfl X'
  exact ⟨t2, st t2 a1, b1⟩
theorem pst_split {n : Nat} {st : List Value} {v : Value} {r : List Value} (h : st.drop n = v :: r) : st.map (pSh G) = (((st.take n).reverse).map (pSh G)).reverse ++ pSh G v :: r.map (pSh G) := by
  conv => lhs; rw [← List.take_append_drop n st, h]
  rw [List.map_append, List.map_reverse, List.reverse_reverse, List.map_cons]
theorem pst_split0 {n : Nat} {st : List Value} : st.map (pSh G) = (((st.take n).reverse).map (pSh G)).reverse ++ (st.drop n).map (pSh G) := by
  conv => lhs; rw [← List.take_append_drop n st]
  rw [List.map_append, List.map_reverse, List.reverse_reverse]
theorem paux_v {c0 x a : Nat} (h : pAux c0 (.invokevirtual x) a = true) : a / 1000 = 0 ∧ (c0, x, a) ∈ pCs ∧ a % 1000 ∈ pJs ∧ a % 1000 ∈ pSs := by
  have h : (a / 1000 == 0 && pCs.contains (c0, x, a) && pJs.contains (a % 1000) && pSs.contains (a % 1000)) = true := h
  simp only [Bool.and_eq_true, beq_iff_eq, List.contains_iff_mem] at h
  exact ⟨h.1.1.1, h.1.1.2, h.1.2, h.2⟩
theorem paux_s {c0 x a : Nat} (h : pAux c0 (.invokestatic x) a = true) (ha : a < 4000) : a / 1000 = 1 ∧ (c0, x, a) ∈ pCs ∧ a % 1000 ∈ pTt := by
  have h : ((a / 1000 == 1 && pCs.contains (c0, x, a) && pTt.contains (a % 1000)) || (a == 5000 && pCs.contains (c0, x, a))) = true := h
  have hz : (a == 5000) = false := by simp; omega
  simp only [hz, Bool.false_and, Bool.or_false, Bool.and_eq_true, beq_iff_eq, List.contains_iff_mem] at h
  exact ⟨h.1.1, h.1.2, h.2⟩
theorem paux_i {c0 x a : Nat} (h : pAux c0 (.invokespecial x) a = true) (ha : a < 4000) : a % 1000 ∈ pJs ∧ ((a / 1000 = 2 ∧ (c0, x, a) ∈ pCs) ∨ (a / 1000 = 3 ∧ (c0, x, a) ∈ pC3)) := by
  have h : ((a / 1000 == 2 && pCs.contains (c0, x, a) && pJs.contains (a % 1000)) || (a / 1000 == 3 && pC3.contains (c0, x, a) && pJs.contains (a % 1000)) || (a == 4000 && pCs.contains (c0, x, a))) = true := h
  have hz : (a == 4000) = false := by simp; omega
  simp only [hz, Bool.false_and, Bool.or_false, Bool.or_eq_true, Bool.and_eq_true, beq_iff_eq, List.contains_iff_mem] at h
  rcases h with h | h
  · exact ⟨h.2, Or.inl h.1⟩
  · exact ⟨h.2, Or.inr h.1⟩
theorem pwy_of {a : Nat} (h : a < 4000) : pWy a = pMy (a % 1000) := by
  unfold pWy
  rw [if_neg (by omega), if_neg (by omega)]
set_option maxHeartbeats 4000000 in
theorem ps_arg {M : pMe} {L0 : pHp} (F : pFx G M p R s m args meth c L0) {en : pEn} (hok : pOkE M.1 M.2.2.1 en = true) (hlt : en.2.2.2 < 99999) {lv : pLv} {st : List Value} {L L1 : pHp} {K : Nat} {as rest : List Value} {r1 : Option Value} (h : pArg en st L = some (K, as, rest)) {d : Nat} (hM : Met l (pMy K) (pWM (pMt K)) (pRm d (L1.length - L.length) (pSz L1 - pSz L)) (pPc G as L) (pQc G r1 L1) (L1.length - L.length) (pSz L1 - pSz L) (pA G)) (hRf : d + 1 ≤ R.frames) (hRl : 200 * (d + 1) ≤ R.locals)
    (hH : pH G L H) (hlo : ∀ q ∈ locs, pB G ≤ q.base) (hl : lv_has ls M.2.2.2.1 (pLm G lv)) (hrc : cells + (L1.length - L.length) ≤ R.cells) (hrs : slots + (pSz L1 - pSz L) ≤ R.slots)
    (kk : ∀ H1 locs1, pH G L1 H1 → (∀ q ∈ locs1, pB G ≤ q.base) → W p l e R s m args below meth c H1 locs1 (cells + (L1.length - L.length)) (slots + (pSz L1 - pSz L)) Q (F0 m (en.1 + 3) ls ((r1.toList ++ rest).map (pSh G)))) : W p l e R s m args below meth c H locs cells slots Q (F0 m en.1 ls (st.map (pSh G))) := by
  obtain ⟨hd, ha⟩ := pok_of hok hlt
  obtain ⟨hx, hb, hml, hown, hini, hts0, hK, h0, hlk, hret, hfr, hlcl⟩ := id F
  have hts : ∀ w ∈ pAll, w.before args s = true := fun w hw => hts0 w (List.mem_cons_of_mem _ hw)
  have hV : pV1 G := hK.2.2.2.2.1
  have hkk : ∀ H1 locs1, pH G L1 H1 → (∀ q ∈ locs1, pB G ≤ q.base) → W p l e R s m args below meth c H1 locs1 (cells + (L1.length - L.length)) (slots + (pSz L1 - pSz L)) Q (F0 m (en.1 + 3) ls ((r1.map (pSh G)).toList ++ rest.map (pSh G))) := by
    intro H1 locs1 a1 a2
    have h9 := kk H1 locs1 a1 a2
    rw [List.map_append] at h9
    cases r1 with
    | none => exact h9
    | some v => exact h9
  unfold pArg at h
  simp only at h
  split at h
  · rename_i hc
    obtain ⟨c1, c2, c3, c4⟩ := hc
    have hmem := pMt_mem c3
    obtain ⟨m1, m2, m3, m4, m5, m6, m7⟩ := pMok_of hmem
    have hini2 : (Cond.initialized (pMy (en.2.2.2 % 1000)).cls).before args s = true := by
      have h9 := hts _ (pa_z (pZz_all _ m7))
      unfold pWz at h9
      rw [← m1] at h9
      exact h9
    have hG := pWM_good (M := M) hmem
    have hroom : ∀ mc ms : Nat, (pRm d mc ms).frames + 1 ≤ R.frames ∧ 8 + ((pMt (en.2.2.2 % 1000)).2.2.2.1 + 11) + (pRm d mc ms).locals ≤ R.locals := by
      intro mc ms
      refine ⟨hRf, ?_⟩
      show 8 + ((pMt (en.2.2.2 % 1000)).2.2.2.1 + 11) + 200 * d ≤ R.locals
      omega
    have hlen : (((st.take (pMt (en.2.2.2 % 1000)).2.2.2.2.2).reverse).map (pSh G)).length = (pMt (en.2.2.2 % 1000)).2.2.2.2.2 := by
      rw [List.length_map, List.length_reverse, List.length_take]
      omega
    rw [c1] at hd
    split at h
    · rename_i x hi
      rw [hi] at ha hd
      obtain ⟨a1, a2, a3⟩ := paux_s ha c2
      split at h
      · rename_i hcat
        cases h
        have hlk2 := hts _ (pa_c a2)
        unfold pWc at hlk2
        rw [pwy_of c2] at hlk2
        have hcb := callB_of (R := R) (own := pR M.1) (index := x) (pMt (en.2.2.2 % 1000)).2.2.2.2.2 hts0 hG rfl rfl rfl hini2 hlk2 ⟨m3, m4, m5⟩ (hroom (L1.length - L.length) (pSz L1 - pSz L))
        rw [pst_split0 (n := (pMt (en.2.2.2 % 1000)).2.2.2.2.2)]
        exact ps_call (as := ((st.take (pMt (en.2.2.2 % 1000)).2.2.2.2.2).reverse).map (pSh G)) (va_runS ⟨hx, hb, hml, hown, hts0⟩ hM ⟨hcb, hts _ (pa_t a3)⟩ ⟨ppc_blind, fun U hU hW => ⟨rfl, by rw [hU]; exact hH, hK.warm hW⟩⟩ rfl hlen hl.1 rfl (lv_room (by rw [psh_cats hV]; exact hcat)) hd ⟨hrc, hrs⟩) hlo hkk
      · cases h
    · rename_i x hi
      rw [hi] at ha hd
      obtain ⟨a1, a2, a3, a4⟩ := paux_v ha
      have hlk2 := hts _ (pa_c a2)
      unfold pWc at hlk2
      rw [pwy_of c2] at hlk2
      have hcb := callB_of (R := R) (own := pR M.1) (index := x) (pMt (en.2.2.2 % 1000)).2.2.2.2.2 hts0 hG rfl rfl rfl hini2 hlk2 ⟨m3, m4, m5⟩ (hroom (L1.length - L.length) (pSz L1 - pSz L))
      split at h
      · rename_i o r hdr
        split at h
        · rename_i hcat
          cases h
          obtain ⟨k1, k2, k3⟩ := hcat
          obtain ⟨q, hq, hq1⟩ := omap k2
          have hrecv : ∃ cellB : Cell, H[pB G + o]? = some cellB ∧ cellB.vm.isStatics = false ∧ s.vm.findClass (pMy (en.2.2.2 % 1000)).cls = some cellB.cls := by
            obtain ⟨-, cell, g1, g2, g3, -⟩ := (hH.2.2 o q hq).obj (by omega)
            refine ⟨cell, g1, by rw [g3]; rfl, ?_⟩
            show s.vm.findClass (pMt (en.2.2.2 % 1000)).2.1.cls = _
            rw [m1, g2, hq1]
            exact (hK.1.1 _ _ (pCl_at _ k3)).2.1
          rw [pst_split hdr]
          exact ps_call (as := (.ref o :: (st.take (pMt (en.2.2.2 % 1000)).2.2.2.2.2).reverse).map (pSh G)) (va_runV ⟨hx, hb, hml, hown, hts0⟩ hM ⟨hcb, hts _ (pa_j a3), hts _ (pa_s a4)⟩ ⟨ppc_blind, hrecv, fun U hU hW => ⟨rfl, by rw [hU]; exact hH, hK.warm hW⟩⟩ rfl hlen hl.1 rfl (lv_room (by rw [psh_cats hV]; exact k1)) hd ⟨hrc, hrs⟩) hlo hkk
        · cases h
      · rename_i u r hdr
        split at h
        · rename_i hcat
          cases h
          obtain ⟨k1, rfl, k3⟩ := hcat
          have hrecv : ∃ cellB : Cell, H[G.2.2.2.1.2.1]? = some cellB ∧ cellB.vm.isStatics = false ∧ s.vm.findClass (pMy (en.2.2.2 % 1000)).cls = some cellB.cls := by
            obtain ⟨cell, g1, g2, g3, -⟩ := hK.2.2.2.2.2.2.2.1.kept (H1 := H) (fun a _ hA => hH.1 a (Nat.not_le.mp hA))
            refine ⟨cell, g1, g2, ?_⟩
            show s.vm.findClass (pMt (en.2.2.2 % 1000)).2.1.cls = _
            rw [m1, k3]
            exact g3
          rw [pst_split hdr]
          exact ps_call (as := (.float 0 :: (st.take (pMt (en.2.2.2 % 1000)).2.2.2.2.2).reverse).map (pSh G)) (va_runV ⟨hx, hb, hml, hown, hts0⟩ hM ⟨hcb, hts _ (pa_j a3), hts _ (pa_s a4)⟩ ⟨ppc_blind, hrecv, fun U hU hW => ⟨rfl, by rw [hU]; exact hH, hK.warm hW⟩⟩ rfl hlen hl.1 rfl (lv_room (by rw [psh_cats hV]; exact k1)) hd ⟨hrc, hrs⟩) hlo hkk
        · cases h
      · cases h
    · rename_i x hi
      rw [hi] at ha hd
      obtain ⟨a3, a2⟩ := paux_i ha c2
      split at h
      · rename_i o r hdr
        split at h
        · rename_i hcat
          cases h
          obtain ⟨k1, k2⟩ := hcat
          have hpre : PreS s H (pPc G (.ref o :: (st.take (pMt (en.2.2.2 % 1000)).2.2.2.2.2).reverse) L) (.ref (pB G + o) :: ((st.take (pMt (en.2.2.2 % 1000)).2.2.2.2.2).reverse).map (pSh G)) := ⟨ppc_blind, fun U hU hW => ⟨rfl, by rw [hU]; exact hH, hK.warm hW⟩⟩
          have hret2 : (pMt (en.2.2.2 % 1000)).2.2.2.2.1 = none := pini_ret hmem k2
          rw [pst_split hdr]
          have hwm : pWM (pMt (en.2.2.2 % 1000)) = Cond.code (pMy (en.2.2.2 % 1000)) (pMt (en.2.2.2 % 1000)).2.2.1 (pMt (en.2.2.2 % 1000)).2.2.2.1 none :: pAll := by
            show Cond.code _ _ _ (pMt (en.2.2.2 % 1000)).2.2.2.2.1 :: pAll = _
            rw [hret2]
            rfl
          rcases a2 with ⟨b1, b2⟩ | ⟨b1, b2⟩
          · have hlk2 := hts _ (pa_c b2)
            unfold pWc at hlk2
            rw [pwy_of c2] at hlk2
            have hcb := callB_of (R := R) (own := pR M.1) (index := x) (pMt (en.2.2.2 % 1000)).2.2.2.2.2 hts0 hG hwm rfl rfl hini2 hlk2 ⟨m3, m4, m5⟩ (hroom (L1.length - L.length) (pSz L1 - pSz L))
            exact ps_call (as := (.ref o :: (st.take (pMt (en.2.2.2 % 1000)).2.2.2.2.2).reverse).map (pSh G)) (va_runI ⟨hx, hb, hml, hown, hts0⟩ hM ⟨hcb, k2, hts _ (pa_j a3)⟩ hpre rfl hlen hl.1 rfl (lv_room (by rw [psh_cats hV]; exact k1)) hd ⟨hrc, hrs⟩) hlo hkk
          · have hcb := va_cnB (R := R) (own := pR M.1) (index := x) (pMt (en.2.2.2 % 1000)).2.2.2.2.2 hts0 hG hwm rfl rfl (hK.2.1 _ b2) hini2 ⟨m3, m4, m5⟩ (hroom (L1.length - L.length) (pSz L1 - pSz L))
            exact ps_call (as := (.ref o :: (st.take (pMt (en.2.2.2 % 1000)).2.2.2.2.2).reverse).map (pSh G)) (va_runIN ⟨hx, hb, hml, hown, hts0⟩ hM ⟨hcb, k2, hts _ (pa_j a3)⟩ hpre rfl hlen hl.1 rfl (lv_room (by rw [psh_cats hV]; exact k1)) hd ⟨hrc, hrs⟩) hlo hkk
        · cases h
      · cases h
    · cases h
  · cases h
end SND2
