/-! ALL INSTRUCTIONS of the small machine are the great one's. -/
theorem pmem_kind {sy : Bool} {c : Nat} {ini : Bool} {i : Instr} {a k : Nat} {st st' : List Value} {L L' : pHp} (h : pMem sy c ini i a st L = some (k, st', L')) : L' = L ∨ (∃ (o : Nat) (q q' : pOb), L[o]? = some q ∧ q'.2.length = q.2.length ∧ L' = L.set o q') ∨ ∃ q, L' = L ++ [q] := by
  unfold pMem at h
  split at h
  all_goals first | (cases h; done) | skip
  · split at h
    · split at h
      · split at h
        · obtain ⟨v, -, h2⟩ := omap h
          cases h2
          exact Or.inl rfl
        · cases h
      · cases h
    · cases h
  · split at h
    · split at h
      · rename_i q hq
        split at h
        · cases h
          exact Or.inr (Or.inl ⟨_, q, _, hq, by rw [List.length_set], rfl⟩)
        · cases h
      · cases h
    · cases h
  iterate 4
    · split at h
      · split at h
        · split at h
          · obtain ⟨v, -, h2⟩ := omap h
            cases h2
            exact Or.inl rfl
          · cases h
        · cases h
      · cases h
  iterate 3
    · split at h
      · split at h
        · rename_i q hq
          split at h
          · obtain ⟨v, -, h2⟩ := omap h
            cases h2
            exact Or.inr (Or.inl ⟨_, q, _, hq, by rw [List.length_set], rfl⟩)
          · cases h
        · cases h
      · cases h
  · split at h
    · split at h
      · rename_i q hq
        split at h
        · split at h
          · obtain ⟨v, -, h2⟩ := omap h
            cases h2
            exact Or.inr (Or.inl ⟨_, q, _, hq, by rw [List.length_set], rfl⟩)
          · cases h
        · cases h
      · cases h
    · cases h
  · split at h
    · split at h
      · split at h
        · cases h
          exact Or.inl rfl
        · cases h
      · cases h
    · cases h
  · split at h
    · cases h
      exact Or.inr (Or.inr ⟨_, rfl⟩)
    · cases h
  · split at h
    · split at h
      · split at h
        · cases h
        · cases h
          exact Or.inr (Or.inr ⟨_, rfl⟩)
      · cases h
    · cases h
  · split at h
    · split at h
      · cases h
        exact Or.inr (Or.inr ⟨_, rfl⟩)
      · cases h
    · cases h
  iterate 3
    · split at h
      · cases h
        exact Or.inl rfl
      · cases h
  · split at h
    · split at h
      · split at h
        · rename_i w hw
          split at h
          · rename_i hc
            cases h
            obtain ⟨-, -, -, -, -, -, h4, h5, -⟩ := hc
            exact Or.inr (Or.inl ⟨_, w, _, hw, pcp_len h4 h5, rfl⟩)
          · cases h
        · cases h
      · cases h
    · cases h
  · split at h
    · split at h
      · cases h
        exact Or.inl rfl
      · cases h
    · cases h
theorem pkind_mono {L L' : pHp} (h : L' = L ∨ (∃ (o : Nat) (q q' : pOb), L[o]? = some q ∧ q'.2.length = q.2.length ∧ L' = L.set o q') ∨ ∃ q, L' = L ++ [q]) : L.length ≤ L'.length ∧ pSz L ≤ pSz L' := by
  rcases h with rfl | ⟨o, q, q', h1, h2, rfl⟩ | ⟨q, rfl⟩
  · exact ⟨Nat.le_refl _, Nat.le_refl _⟩
  · exact ⟨by rw [List.length_set]; exact Nat.le_refl _, by rw [psz_set h1 h2]; exact Nat.le_refl _⟩
  · exact ⟨by rw [List.length_append]; exact Nat.le_add_right _ _, by rw [psz_push]; exact Nat.le_add_right _ _⟩
theorem pstep_mono {M : pMe} {e : pEn} {lv : pLv} {st : List Value} {L : pHp} {t : Nat × pLv × List Value × pHp} (h : pStp M e lv st L t) : L.length ≤ t.2.2.2.length ∧ pSz L ≤ pSz t.2.2.2 := by
  rcases h with ⟨st', -, rfl⟩ | ⟨lv', st', -, rfl⟩ | ⟨pc', st', -, rfl⟩ | ⟨st', -, rfl⟩ | ⟨st', L', h1, rfl⟩
  · exact ⟨Nat.le_refl _, Nat.le_refl _⟩
  · exact ⟨Nat.le_refl _, Nat.le_refl _⟩
  · exact ⟨Nat.le_refl _, Nat.le_refl _⟩
  · exact ⟨Nat.le_refl _, Nat.le_refl _⟩
  · exact pkind_mono (pmem_kind h1)
theorem ploop_mono {call : pCl} (hc : ∀ K args L rv Lf, call K args L rv Lf → L.length ≤ Lf.length ∧ pSz L ≤ pSz Lf) {M : pMe} {tab : List pEn} : ∀ (n pc : Nat) (lv : pLv) (st : List Value) (L : pHp) (rv : Option Value) (Lf : pHp), pLoop call M tab n pc lv st L rv Lf → L.length ≤ Lf.length ∧ pSz L ≤ pSz Lf := by
  intro n
  induction n with
  | zero => intro pc lv st L rv Lf h; exact h.elim
  | succ n ih =>
    intro pc lv st L rv Lf h
    obtain ⟨e, -, -, -, h⟩ := h
    rcases h with ⟨-, rfl⟩ | ⟨t, h1, h2⟩ | ⟨q, r1, L1, -, h2, h3⟩
    · exact ⟨Nat.le_refl _, Nat.le_refl _⟩
    · have a := pstep_mono h1
      have b := ih _ _ _ _ _ _ h2
      exact ⟨Nat.le_trans a.1 b.1, Nat.le_trans a.2 b.2⟩
    · have a := hc _ _ _ _ _ h2
      have b := ih _ _ _ _ _ _ h3
      exact ⟨Nat.le_trans a.1 b.1, Nat.le_trans a.2 b.2⟩
theorem pex_mono : ∀ (d K : Nat) (args : List Value) (L : pHp) (rv : Option Value) (Lf : pHp), pEx d K args L rv Lf → L.length ≤ Lf.length ∧ pSz L ≤ pSz Lf := by
  intro d
  induction d with
  | zero => intro K args L rv Lf h; exact h.elim
  | succ d ih =>
    intro K args L rv Lf h
    obtain ⟨-, n, h⟩ := h
    exact ploop_mono ih _ _ _ _ _ _ _ h
/-- a frame of the great machine that runs a method of the tables -/
def pFx (G : pG) (M : pMe) (p : Program) (R : Room) (s : State) (m : MethodId) (args : Array Value) (meth : Method) (c : Code) (L0 : pHp) : Prop :=
  p.tables.exec = Jvm.exec ∧ c.code = M.2.2.1 ∧ c.maxLocals = M.2.2.2.1 ∧ s.vm.findClass (pR M.1) = some m.cls ∧ (M.2.1.name = "<init>" → meth.name = "<init>") ∧ (∀ w ∈ pWM M, w.before args s = true) ∧ pKk G s ∧ pH G L0 s.heap ∧ meth.locks = false ∧ meth.sig.returnType = M.2.2.2.2.1 ∧ 1 ≤ R.frames ∧ 200 ≤ R.locals
section SND
variable {p : Program} {l : Launch} {e : Env} {R : Room} {s : State} {m : MethodId} {args : Array Value} {below : List Frame} {meth : Method} {c : Code} {H : Heap} {locs : List Loc} {cells slots : Nat} {Q : State → Prop}
variable {pc : Nat} {ls : Array Slot} {G : pG}
theorem pfs_of {c0 x a : Nat} (h : pAux c0 (.getfield x) a = true) (ha : a < 9000) : (c0, x, a) ∈ pFs := by
  have h : (if 9000 ≤ a then pQs.contains (c0, x, a) else pFs.contains (c0, x, a)) = true := h
  rw [if_neg (by omega)] at h
  simpa using h
theorem paux_copy {c0 x : Nat} (h : pAux c0 (.invokestatic x) 5000 = true) : (c0, x, 5000) ∈ pCs := by
  have h : ((5000 / 1000 == 1 && pCs.contains (c0, x, 5000) && pTt.contains (5000 % 1000)) || (5000 == 5000 && pCs.contains (c0, x, 5000))) = true := h
  simpa using h
theorem paux_obj {c0 x : Nat} (h : pAux c0 (.invokespecial x) 4000 = true) : (c0, x, 4000) ∈ pCs := by
  have h : ((4000 / 1000 == 2 && pCs.contains (c0, x, 4000) && pJs.contains (4000 % 1000)) || (4000 / 1000 == 3 && pC3.contains (c0, x, 4000) && pJs.contains (4000 % 1000)) || (4000 == 4000 && pCs.contains (c0, x, 4000))) = true := h
  simpa using h
theorem obj_link {c0 x : Nat} (hts : ∀ w ∈ pAll, w.before args s = true) (ha : pAux c0 (.invokespecial x) 4000 = true) : (Cond.methodLink (pR c0) x objectInit).before args s = true := by
  have h := hts _ (pa_c (paux_obj ha))
  simpa [pWc, pWy] using h
set_option maxHeartbeats 4000000 in
theorem ps_mem {M : pMe} {L0 : pHp} (F : pFx G M p R s m args meth c L0) {L L' : pHp} (hH : pH G L H) (hlo : ∀ q ∈ locs, pB G ≤ q.base) (hl : ls.size = M.2.2.2.1) (hn : L0.length ≤ L.length) (hs : pSz L0 ≤ pSz L) (hcells : cells = L.length - L0.length) (hslots : slots = pSz L - pSz L0) (hrc : L'.length - L0.length ≤ R.cells) (hrs : pSz L' - pSz L0 ≤ R.slots)
    {i : Instr} {a k : Nat} {st st' : List Value} (h : pMem false M.1 (M.2.1.name == "<init>") i a st L = some (k, st', L')) (ha : pAux M.1 i a = true) (hd : decode M.2.2.1 pc = .ok (i, k))
    (kk : ∀ H' locs' cells' slots', pH G L' H' → (∀ q ∈ locs', pB G ≤ q.base) → cells' = L'.length - L0.length → slots' = pSz L' - pSz L0 → W p l e R s m args below meth c H' locs' cells' slots' Q (F0 m (pc + k) ls (st'.map (pSh G)))) : W p l e R s m args below meth c H locs cells slots Q (F0 m pc ls (st.map (pSh G))) := by
  obtain ⟨hx, hb, hml, hown, hini, hts0, hK, h0, hlk, hret, hfr, hlcl⟩ := F
  have hts : ∀ w ∈ pAll, w.before args s = true := fun w hw => hts0 w (List.mem_cons_of_mem _ hw)
  have hset : ∀ (o : Nat) (q q' : pOb), L[o]? = some q → q'.2.length = q.2.length → L' = L.set o q' → ∀ H' locs', pH G (L.set o q') H' → (∀ q ∈ locs', pB G ≤ q.base) → W p l e R s m args below meth c H' locs' cells slots Q (F0 m (pc + k) ls (st'.map (pSh G))) := by
    intro o q q' h1 h2 h3 H' locs' h4 h5
    subst h3
    exact kk H' locs' cells slots h4 h5 (by rw [List.length_set]; exact hcells) (by rw [psz_set h1 h2]; exact hslots)
  have hsame : L' = L → W p l e R s m args below meth c H locs cells slots Q (F0 m (pc + k) ls (st'.map (pSh G))) := by
    intro h1
    subst h1
    exact kk H locs cells slots hH hlo hcells hslots
  unfold pMem at h
  split at h
  all_goals first | (cases h; done) | skip
  · split at h
    · split at h
      · rename_i q hq
        split at h
        · rename_i hc
          obtain ⟨v, h1, h2⟩ := omap h
          cases h2
          exact ps_getf hx hb hown hts hK hH (pfs_of ha (by omega)) hq hc.1 hc.2.1 hc.2.2 h1 hd (hsame rfl)
        · cases h
      · cases h
    · cases h
  · split at h
    · split at h
      · rename_i q hq
        split at h
        · rename_i hc
          cases h
          have hw : pFs.contains (M.1, _, a) = true := ha
          exact ps_putf hx hb hown hini hts hK hH hlo (by simpa using hw) hq hc.1 hc.2.1 hc.2.2.1 hc.2.2.2 hd (hset _ _ _ hq (by rw [List.length_set]) rfl)
        · cases h
      · cases h
    · cases h
  · split at h
    · split at h
      · rename_i q hq
        split at h
        · rename_i hc
          obtain ⟨v, h1, h2⟩ := omap h
          cases h2
          exact ps_iald hx hb hK hH hq hc h1 hd (hsame rfl)
        · cases h
      · cases h
    · cases h
  · split at h
    · split at h
      · rename_i q hq
        split at h
        · rename_i hc
          obtain ⟨v, h1, h2⟩ := omap h
          cases h2
          exact ps_bald hx hb hK hH hq hc h1 hd (hsame rfl)
        · cases h
      · cases h
    · cases h
  · split at h
    · split at h
      · rename_i q hq
        split at h
        · rename_i hc
          obtain ⟨v, h1, h2⟩ := omap h
          cases h2
          exact ps_lald hx hb hK hH hq hc h1 hd (hsame rfl)
        · cases h
      · cases h
    · cases h
  · split at h
    · split at h
      · rename_i q hq
        split at h
        · rename_i hc
          obtain ⟨v, h1, h2⟩ := omap h
          cases h2
          exact ps_aald hx hb hK hH hq hc h1 hd (hsame rfl)
        · cases h
      · cases h
    · cases h
  · split at h
    · split at h
      · rename_i q hq
        split at h
        · rename_i hc
          obtain ⟨y, rfl⟩ := pint_of hc.2
          obtain ⟨v, h1, h2⟩ := omap h
          cases h2
          exact ps_iast hx hb hK hH hlo hq hc.1 h1 hd (hset _ _ _ hq (by rw [List.length_set]) rfl)
        · cases h
      · cases h
    · cases h
  · split at h
    · split at h
      · rename_i q hq
        split at h
        · rename_i hc
          obtain ⟨y, rfl⟩ := pint_of hc.2
          obtain ⟨v, h1, h2⟩ := omap h
          cases h2
          exact ps_bast hx hb hK hH hlo hq hc.1 h1 hd (hset _ _ _ hq (by rw [List.length_set]) rfl)
        · cases h
      · cases h
    · cases h
  · split at h
    · split at h
      · rename_i q hq
        split at h
        · rename_i hc
          obtain ⟨v, h1, h2⟩ := omap h
          cases h2
          exact ps_last hx hb hK hH hlo hq hc h1 hd (hset _ _ _ hq (by rw [List.length_set]) rfl)
        · cases h
      · cases h
    · cases h
  · split at h
    · split at h
      · rename_i q hq
        split at h
        · rename_i w hw
          split at h
          · rename_i hc
            obtain ⟨v, h1, h2⟩ := omap h
            cases h2
            exact ps_aast hx hb hK hH hlo hq hw hc h1 hd (hset _ _ _ hq (by rw [List.length_set]) rfl)
          · cases h
        · cases h
      · cases h
    · cases h
  · split at h
    · split at h
      · rename_i q hq
        split at h
        · rename_i hc
          cases h
          exact ps_alen hx hb hK hH hq hc.1 hc.2 hd (hsame rfl)
        · cases h
      · cases h
    · cases h
  · split at h
    · rename_i hc
      cases h
      rw [List.length_append] at hrc
      rw [psz_push] at hrs
      simp only [List.length_singleton, pDef_len] at hrc hrs
      have hw : pNs.contains (M.1, _, a) = true := ha
      exact ps_new hx hb hown hts hK hH (by simpa using hw) hc (by omega) (by omega) hd (fun H' h' => kk H' locs _ _ h' hlo (by rw [List.length_append]; simp only [List.length_singleton]; omega) (by rw [psz_push, pDef_len]; omega))
    · cases h
  · split at h
    · split at h
      · rename_i g hg
        split at h
        · cases h
        · rename_i hc
          cases h
          rw [List.length_append] at hrc
          rw [psz_push] at hrs
          simp only [List.length_singleton, List.length_replicate] at hrc hrs
          exact ps_newa hx hb hts hK hH hg hc (by omega) (by omega) hd (fun H' h' => kk H' locs _ _ h' hlo (by rw [List.length_append]; simp only [List.length_singleton]; omega) (by rw [psz_push]; simp only [List.length_replicate]; omega))
      · cases h
    · cases h
  · split at h
    · split at h
      · rename_i hc
        cases h
        rw [List.length_append] at hrc
        rw [psz_push] at hrs
        simp only [List.length_singleton, List.length_replicate] at hrc hrs
        have hw : pAn.contains (M.1, _, a) = true := ha
        exact ps_anew hx hb hown hts hK hH (by simpa using hw) hc.1 hc.2 (by omega) (by omega) hd (fun H' h' => kk H' locs _ _ h' hlo (by rw [List.length_append]; simp only [List.length_singleton]; omega) (by rw [psz_push]; simp only [List.length_replicate]; omega))
      · cases h
    · cases h
  · split at h
    · rename_i x _ q hq
      cases h
      have hz : a < 900 := Nat.lt_of_lt_of_le (List.getElem?_eq_some_iff.mp hq).1 (by decide)
      have hw : q.1 = M.1 ∧ q.2.1 = x := by
        have hz2 : (a == 900) = false := by simp; omega
        simpa [pAux, hq, hz2] using ha
      obtain ⟨w1, w2⟩ := hw
      have hkw := hts _ (pa_k (List.mem_of_getElem? hq))
      unfold pWk at hkw
      rw [w1, w2] at hkw
      exact lv_ldc hx hb hown hkw hd (hsame rfl)
    · cases h
  · split at h
    · rename_i x _ q hq
      cases h
      have hw : q.1 = M.1 ∧ q.2.1 = x := by simpa [pAux, hq] using ha
      obtain ⟨w1, w2⟩ := hw
      have hkw := hts _ (pa_k (List.mem_of_getElem? hq))
      unfold pWk at hkw
      rw [w1, w2] at hkw
      exact lv_ldcw hx hb hown hkw hd (hsame rfl)
    · cases h
  · split at h
    · rename_i x _ q hq
      cases h
      have hw : q.1 = M.1 ∧ q.2.1 = x := by simpa [pAux, hq] using ha
      obtain ⟨w1, w2⟩ := hw
      have hkw := hts _ (pa_l (List.mem_of_getElem? hq))
      unfold pWl at hkw
      rw [w1, w2] at hkw
      exact lv_ldc2 hx hb hown hkw hd (hsame rfl)
    · cases h
  · split at h
    · split at h
      · rename_i q hq
        split at h
        · rename_i w hw
          split at h
          · rename_i hc
            cases h
            obtain ⟨rfl, c1, c2, c3, c4, c5, c6, c7, c8, c9, c10⟩ := hc
            exact ps_copy hx hb (hml.trans hl.symm) hown hts hK hH hlo (paux_copy ha) hq hw c1 c2 c3 c4 c5 c6 c7 c8 c9 hfr (by
              rw [psh_cats hK.2.2.2.2.1]
              have : nativeFrameWords "java/lang/System" "arraycopy" 5 ≤ 100 := by decide +kernel
              omega) hd (hset _ _ _ hw (pcp_len c6 c7) rfl)
          · cases h
        · cases h
      · cases h
    · cases h
  · split at h
    · split at h
      · rename_i hc
        cases h
        obtain ⟨rfl, c1⟩ := hc
        exact W.objInit hx hb hown (obj_link hts ha) (hts _ (pa_o (List.mem_of_getElem? (i := 0) rfl))) (hts _ (pa_o (List.mem_of_getElem? (i := 1) rfl))) rfl (hl.trans hml.symm) rfl hd hfr (by
          show 2 * 0 + _ + 12 ≤ _
          rw [psh_cats hK.2.2.2.2.1]
          omega) (hsame rfl)
      · cases h
    · cases h
end SND
