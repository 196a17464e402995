/-! EVERY SMALL RUN GIVES A CONTRACT. -/
theorem parg_lt {en : pEn} {st : List Value} {L : pHp} {K : Nat} {as rest : List Value} (h : pArg en st L = some (K, as, rest)) : K < pMs.length := by
  unfold pArg at h
  simp only at h
  split at h
  · rename_i hc
    have key : ∀ (x : Option (Nat × List Value × List Value)), x = some (K, as, rest) → (∀ a b c, x = some (a, b, c) → a = en.2.2.2 % 1000) → K < pMs.length := by
      intro x hx hk
      rw [hk _ _ _ hx]
      exact hc.2.2.1
    refine key _ h ?_
    intro a b c h
    split at h
    · split at h
      · cases h; rfl
      · cases h
    · split at h
      · split at h
        · cases h; rfl
        · cases h
      · split at h
        · cases h; rfl
        · cases h
      · cases h
    · split at h
      · split at h
        · cases h; rfl
        · cases h
      · cases h
    · cases h
  · cases h
section SND3
variable {p : Program} {l : Launch} {e : Env} {R : Room} {s : State} {m : MethodId} {args : Array Value} {below : List Frame} {meth : Method} {c : Code} {G : pG}
theorem ps_ret {M : pMe} {L0 : pHp} (F : pFx G M p R s m args meth c L0) {en : pEn} (hok : pOkE M.1 M.2.2.1 en = true) (hlt : en.2.2.2 < 99999) {st : List Value} {L : pHp} {rv : Option Value} (h : pRet M.2.2.2.2.1 en st = some rv) {H : Heap} {locs : List Loc} {ls : Array Slot} (hH : pH G L H) (hlo : ∀ q ∈ locs, pB G ≤ q.base) {cells slots : Nat} :
    W p l e R s m args below meth c H locs cells slots (MQ below (pQc G rv L) args s cells slots (pA G)) (F0 m en.1 ls (st.map (pSh G))) := by
  obtain ⟨hd, -⟩ := pok_of hok hlt
  obtain ⟨hx, hb, hml, hown, hini, hts0, hK, h0, hlk, hret, hfr, hlcl⟩ := F
  unfold pRet at h
  split at h
  · rename_i h1
    rw [h1] at hd
    split at h
    · rename_i hi
      rw [hi] at hd
      split at h
      · rename_i x ty hrt
        split at h
        · rename_i hn
          cases h
          rw [hrt] at hret
          exact W.zret (v := x) hx hb hret hn (fun t ht _ => ⟨rfl, by rw [ht]; exact hH⟩) hlo hd
        · cases h
      · cases h
    · rename_i hi
      rw [hi] at hd
      split at h
      · rename_i x hrt
        cases h
        rw [hrt] at hret
        exact W.lret (v := x) hx hb hret (fun t ht _ => ⟨rfl, by rw [ht]; exact hH⟩) hlo hd
      · cases h
    · rename_i hi
      rw [hi] at hd
      split at h
      · rename_i hrt
        cases h
        rw [hrt] at hret
        exact W.vret hx hb hret (fun t ht _ => ⟨rfl, by rw [ht]; exact hH⟩) hlo hd
      · cases h
    · cases h
  · cases h
theorem ps_loop {M : pMe} {L0 : pHp} (F : pFx G M p R s m args meth c L0) {tab : List pEn} (htab : ∀ en ∈ tab, pOkE M.1 M.2.2.1 en = true) {d : Nat}
    (hcall : ∀ K as L rv Lf, pEx d K as L rv Lf → K < pMs.length → Met l (pMy K) (pWM (pMt K)) (pRm d (Lf.length - L.length) (pSz Lf - pSz L)) (pPc G as L) (pQc G rv Lf) (Lf.length - L.length) (pSz Lf - pSz L) (pA G))
    (hRf : d + 1 ≤ R.frames) (hRl : 200 * (d + 1) ≤ R.locals) {rv : Option Value} {Lf : pHp} (hRc : Lf.length - L0.length ≤ R.cells) (hRs : pSz Lf - pSz L0 ≤ R.slots) :
    ∀ (n pc : Nat) (lv : pLv) (st : List Value) (L : pHp) (H : Heap) (locs : List Loc) (cells slots : Nat) (ls : Array Slot), pLoop (pEx d) M tab n pc lv st L rv Lf → pH G L H → (∀ q ∈ locs, pB G ≤ q.base) → lv_has ls M.2.2.2.1 (pLm G lv) → L0.length ≤ L.length → pSz L0 ≤ pSz L → cells = L.length - L0.length → slots = pSz L - pSz L0 →
      W p l e R s m args below meth c H locs cells slots (MQ below (pQc G rv Lf) args s (Lf.length - L0.length) (pSz Lf - pSz L0) (pA G)) (F0 m pc ls (st.map (pSh G))) := by
  intro n
  induction n with
  | zero => intro pc lv st L H locs cells slots ls h; exact h.elim
  | succ n ih =>
    intro pc lv st L H locs cells slots ls h hH hlo hl hn hs hcells hslots
    obtain ⟨en, hen, rfl, hlt, h⟩ := h
    have hok := htab en hen
    rcases h with ⟨h1, rfl⟩ | ⟨t, h1, h2⟩ | ⟨⟨K, as, rest⟩, r1, L1, h1, h2, h3⟩
    · subst hcells; subst hslots
      exact ps_ret F hok hlt h1 hH hlo
    · have m1 := pstep_mono h1
      have m2 := ploop_mono (pex_mono d) _ _ _ _ _ _ _ h2
      exact ps_step F hok hlt h1 hH hlo hl hn hs hcells hslots (by omega) (by omega) (fun H' locs' cells' slots' ls' a1 a2 a3 a4 a5 => ih _ _ _ _ _ _ _ _ _ h2 a1 a2 a3 (by omega) (by omega) a4 a5)
    · have m1 := pex_mono d _ _ _ _ _ h2
      have m2 := ploop_mono (pex_mono d) _ _ _ _ _ _ _ h3
      exact ps_arg F hok hlt h1 (hcall K as L r1 L1 h2 (parg_lt h1)) hRf hRl hH hlo hl (by omega) (by omega) (fun H1 locs1 a1 a2 => ih _ _ _ _ _ _ _ _ _ h3 a1 a2 hl (by omega) (by omega) (by omega) (by omega))
end SND3
theorem plg_len {G : pG} (hV : pV1 G) (vs : List Value) : (lg_sl (vs.map (pSh G))).length = (lg_sl vs).length := by
  induction vs with
  | nil => rfl
  | cons v vs ih =>
    simp only [lg_sl, List.map_cons, List.flatMap_cons, List.length_append] at ih ⊢
    rw [ih, psh_cat hV]
    by_cases h : v.category = 2
    · simp [h]
    · simp [h]
theorem pSound (l : Launch) (G : pG) (hT : ∀ K, K < pMs.length → ∀ en ∈ pTs.getD K [], pOkE (pMt K).1 (pMt K).2.2.1 en = true) : ∀ (d K : Nat) (as : List Value) (L : pHp) (rv : Option Value) (Lf : pHp), pEx d K as L rv Lf → K < pMs.length →
    Met l (pMy K) (pWM (pMt K)) (pRm d (Lf.length - L.length) (pSz Lf - pSz L)) (pPc G as L) (pQc G rv Lf) (Lf.length - L.length) (pSz Lf - pSz L) (pA G) := by
  intro d
  induction d with
  | zero => intro K as L rv Lf h; exact h.elim
  | succ d ih =>
    intro K as L rv Lf h hK
    obtain ⟨hlen, n, h⟩ := h
    have hmem := pMt_mem hK
    obtain ⟨m1, m2, m3, m4, m5, m6, m7⟩ := pMok_of hmem
    refine va_MetF (cc := (pMt K).2.2.1) (maxL := (pMt K).2.2.2.1) (ret := (pMt K).2.2.2.2.1) m2 rfl ?_
    intro p e s m args below meth c s₁ B hml hv
    obtain ⟨rfl, hH, hKk⟩ := hv
    have hV : pV1 G := hKk.2.2.2.2.1
    have hown : s.vm.findClass (pMy K).cls = some m.cls := findClass_of_methodNamed B.named
    have hnm : meth.name = (pMy K).name := (name_of_methodNamed B.named B.method).1
    have F : pFx G (pMt K) p (headSpec (pWM (pMt K)) (pRm (d + 1) (Lf.length - L.length) (pSz Lf - pSz L))).room s m (as.map (pSh G)).toArray meth c L :=
      ⟨B.exec, B.bytes, hml, by rw [← m1]; exact hown, fun h => hnm.trans h, atoms_spec (ws := pWM (pMt K)) B.pre, hKk, hH, B.notSynchronized, B.returns, Nat.le_add_left 1 d, by show 200 ≤ 200 * (d + 1); omega⟩
    have hl := lv_entry (as.map (pSh G)) (n := (pMt K).2.2.2.1) (by rw [plg_len hV]; exact hlen)
    rw [pargs_map hV] at hl
    rw [lg_entry_eq]
    exact ps_loop F (hT K hK) ih (Nat.le_refl _) (Nat.le_refl _) (Nat.le_refl _) (Nat.le_refl _) n 0 _ [] L s.heap [] 0 0 _ h hH (fun q hq => nomatch hq) hl (Nat.le_refl _) (Nat.le_refl _) (by omega) (by omega)
