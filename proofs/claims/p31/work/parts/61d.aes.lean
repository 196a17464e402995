/-! A RUN WITH UNKNOWNS tells of every run without them. -/
section AES
variable {ρ : Nat → Int32}
theorem as_astk {i : Instr} {k : Nat} {st st' cst : List Value} (h : aStk i st = some (k, st')) (hv : vL ρ st cst) : ∃ cst', pStk i cst = some (k, cst') ∧ vL ρ st' cst' := by
  unfold aStk at h
  split at h
  · rename_i r hr
    cases h
    exact as_stk hr hv
  · split at h
    · split at h
      · rename_i a b r _
        split at h
        · rename_i hc
          cases h
          rw [Bool.and_eq_true] at hc
          obtain ⟨y', _, rfl, hy, x', m, rfl, hx, hr⟩ := hv
          obtain ⟨y, rfl⟩ := vR_int hy hc.1
          obtain ⟨x, rfl⟩ := vR_int hx hc.2
          refine ⟨.int (x + y) :: m, rfl, .int (x + y), m, rfl, ?_, hr⟩
          by_cases ha : a = .int 0
          · rw [if_pos ha]
            subst ha
            have hy : Value.int y = .int 0 := hy
            cases hy
            rw [Int32.add_zero]
            exact hx
          · rw [if_neg ha]
            by_cases hb : b = .int 0
            · rw [if_pos hb]
              subst hb
              have hx : Value.int x = .int 0 := hx
              cases hx
              rw [Int32.zero_add]
              exact hy
            · rw [if_neg hb]
              exact vR_top _
        · cases h
      · cases h
    iterate 4
      · split at h
        · split at h
          · rename_i hc
            cases h
            rw [Bool.and_eq_true] at hc
            obtain ⟨y', _, rfl, hy, x', m, rfl, hx, hr⟩ := hv
            obtain ⟨y, rfl⟩ := vR_int hy hc.1
            obtain ⟨x, rfl⟩ := vR_int hx hc.2
            exact ⟨_, rfl, _, m, rfl, vR_top _, hr⟩
          · cases h
        · cases h
    iterate 2
      · split at h
        · split at h
          · rename_i hc
            cases h
            obtain ⟨y', m, rfl, hy, hr⟩ := hv
            obtain ⟨y, rfl⟩ := vR_int hy hc
            exact ⟨_, rfl, _, m, rfl, vR_top _, hr⟩
          · cases h
        · cases h
    · cases h
theorem as_tab {env : aEv} {k pc : Nat} {q : Int × Int} {lv : pLv} {r : List Value} {L : pHp} {lo : Int} : ∀ (l : List Int) (j : Nat) (t : List aSt), aTab env k q pc lv r L lo l j = some t → ∀ (i : Nat) (o : Int), l[i]? = some o → q.1 ≤ lo + (j + i : Nat) → lo + (j + i : Nat) ≤ q.2 → ∃ g, pTo pc o = some g ∧ (env.set k (lo + (j + i : Nat), lo + (j + i : Nat)), g, lv, r, L) ∈ t := by
  intro l
  induction l with
  | nil => intro j t _ i o ho; simp at ho
  | cons a l ih =>
    intro j t h i o ho h1 h2
    unfold aTab at h
    split at h
    · rename_i t' ht'
      cases i with
      | zero =>
        cases ho
        rw [if_pos ⟨h1, h2⟩] at h
        split at h
        · rename_i g hg
          cases h
          exact ⟨g, hg, List.mem_cons_self⟩
        · cases h
      | succ i =>
        have e : j + (i + 1) = j + 1 + i := by omega
        obtain ⟨g, g1, g2⟩ := ih (j + 1) t' ht' i o (by simpa using ho) (by rw [← e]; exact h1) (by rw [← e]; exact h2)
        rw [e]
        refine ⟨g, g1, ?_⟩
        split at h
        · split at h
          · cases h
            exact List.mem_cons_of_mem _ g2
          · cases h
        · cases h
          exact g2
    · cases h
theorem acp_ok {env : aEv} (he : aEn ρ env) {y x : Value} {cy cx : Int32} (hy : vR ρ y (.int cy)) (hx : vR ρ x (.int cx)) (c : Jvm.ClassFile.Cond) : ∃ q ∈ aCp env y x c, q.1 = pCmp c cx cy ∧ aEn ρ q.2 := by
  have both : ∃ q ∈ ([(true, env), (false, env)] : List (Bool × aEv)), q.1 = pCmp c cx cy ∧ aEn ρ q.2 := by
    cases hc : pCmp c cx cy with
    | true => exact ⟨(true, env), List.mem_cons_self, rfl, he⟩
    | false => exact ⟨(false, env), List.mem_cons_of_mem _ List.mem_cons_self, rfl, he⟩
  have two : ∀ y0 : Value, vR ρ y0 (.int cy) → ∃ q ∈ (match x with | .int x0 => aFk env y0 (aSwp c) x0 | _ => [(true, env), (false, env)]), q.1 = pCmp c cx cy ∧ aEn ρ q.2 := by
    intro y0 hy0
    cases x with
    | int x0 =>
      have e : cx = x0 := Value.int.inj hx
      subst e
      obtain ⟨q, q1, q2, q3⟩ := afk_ok he hy0 (aSwp c) cx
      rw [pcmp_swp] at q2
      exact ⟨q, q1, q2, q3⟩
    | _ => exact both
  cases y with
  | int y0 =>
    have e : cy = y0 := Value.int.inj hy
    subst e
    exact afk_ok he hx c cy
  | float u => exact two _ hy
  | long u => exact two _ hy
  | double u => exact two _ hy
  | ref u => exact two _ hy
  | null => exact two _ hy
  | _ => exact two _ hy
set_option maxHeartbeats 4000000 in
theorem as_ajmp {e : pEn} {env : aEv} (he : aEn ρ env) {lv : pLv} {st cst : List Value} {L : pHp} {l : List aSt} (h : aJmp e env lv st L = some l) (hv : vL ρ st cst) : ∃ t ∈ l, aEn ρ t.1 ∧ t.2.2.1 = lv ∧ t.2.2.2.2 = L ∧ ∃ cst', pJmp e.2.1 e.1 e.2.2.1 cst = some (t.2.1, cst') ∧ vL ρ t.2.2.2.1 cst' := by
  obtain ⟨pc, i, len, a⟩ := e
  unfold aJmp at h
  simp only at h ⊢
  split at h
  · rename_i t st' hj
    cases h
    obtain ⟨cst', g1, g2⟩ := as_jmp hj hv
    exact ⟨_, List.mem_cons_self, he, rfl, rfl, cst', g1, g2⟩
  · split at h
    · rename_i c off _
      split at h
      · rename_i u r _
        split at h
        · rename_i hc
          rw [Bool.and_eq_true, beq_iff_eq] at hc
          split at h
          · rename_i t ht
            cases h
            obtain ⟨x', m, rfl, hx, hr⟩ := hv
            obtain ⟨x, rfl⟩ := vR_int hx hc.1
            obtain ⟨q, q1, q2, q3⟩ := afk_ok he hx c 0
            refine ⟨_, List.mem_map.mpr ⟨q, q1, rfl⟩, q3, rfl, rfl, m, ?_, hr⟩
            simp only [pJmp, hc.2, if_true, ht, Option.map_some, q2]
          · cases h
        · cases h
      · cases h
    · rename_i c off _
      split at h
      · rename_i y x r _
        split at h
        · rename_i hc
          rw [Bool.and_eq_true, Bool.and_eq_true, beq_iff_eq] at hc
          obtain ⟨y', _, rfl, hy, x', m, rfl, hx, hr⟩ := hv
          obtain ⟨cy, rfl⟩ := vR_int hy hc.1.1
          obtain ⟨cx, rfl⟩ := vR_int hx hc.1.2
          split at h
          · rename_i t ht
            cases h
            obtain ⟨q, q1, q2, q3⟩ := acp_ok he hy hx c
            refine ⟨_, List.mem_map.mpr ⟨q, q1, rfl⟩, q3, rfl, rfl, m, ?_, hr⟩
            simp only [pJmp, hc.2, if_true, ht, Option.map_some, q2]
          · cases h
        · cases h
      · cases h
    · rename_i d lo hi offs _
      split at h
      · rename_i w r _
        split at h
        · rename_i hw
          split at h
          · rename_i q g hq hg
            split at h
            · rename_i hlen
              split at h
              · rename_i t ht
                cases h
                obtain ⟨x', m, rfl, hx, hr⟩ := hv
                have hx : (if w.toNat < 8 then x' = .float w else if w.toNat = 4294967295 then ∃ z, x' = .int z else x' = .int (ρ (w.toNat - 8))) := hx
                rw [if_neg (by omega), if_neg (by omega)] at hx
                subst hx
                have hb := he _ _ hq
                generalize hz : ρ (w.toNat - 8) = z at hb
                by_cases h1 : z.toInt < lo
                · refine ⟨_, List.mem_cons_self, aEn_set he ?_, rfl, rfl, m, ?_, hr⟩
                  · rw [hz]
                    refine ⟨hb.1, ?_⟩
                    show z.toInt ≤ if q.2 ≤ lo - 1 then q.2 else lo - 1
                    split <;> omega
                  · simp only [pJmp]
                    rw [if_pos (Or.inl h1), hg]
                    rfl
                · by_cases h2 : hi < z.toInt
                  · refine ⟨_, List.mem_cons_of_mem _ List.mem_cons_self, aEn_set he ?_, rfl, rfl, m, ?_, hr⟩
                    · rw [hz]
                      refine ⟨?_, hb.2⟩
                      show (if hi + 1 ≤ q.1 then q.1 else hi + 1) ≤ z.toInt
                      split <;> omega
                    · simp only [pJmp]
                      rw [if_pos (Or.inr h2), hg]
                      rfl
                  · obtain ⟨j, hj⟩ : ∃ j : Nat, z.toInt = lo + (0 + j : Nat) := ⟨(z.toInt - lo).toNat, by omega⟩
                    have hjl : j < offs.toList.length := by omega
                    obtain ⟨g', g1, g2⟩ := as_tab offs.toList 0 t ht j offs.toList[j] (List.getElem?_eq_getElem hjl) (by omega) (by omega)
                    refine ⟨_, List.mem_cons_of_mem _ (List.mem_cons_of_mem _ g2), aEn_set he ?_, rfl, rfl, m, ?_, hr⟩
                    · rw [hz]
                      exact ⟨by rw [hj]; exact Int.le_refl _, by rw [hj]; exact Int.le_refl _⟩
                    · simp only [pJmp]
                      rw [if_neg (fun z => z.elim h1 h2)]
                      have hjj : (z.toInt - lo).toNat = j := by omega
                      have ho : offs[(z.toInt - lo).toNat]? = some offs.toList[j] := by
                        rw [hjj, ← Array.getElem?_toList]
                        exact List.getElem?_eq_getElem hjl
                      rw [ho]
                      simp only [g1]
                      rfl
              · cases h
            · cases h
          · cases h
        · cases h
      · cases h
    · cases h
theorem as_amem {M : pMe} {e : pEn} {k : Nat} {st st' cst : List Value} {L L' cL : pHp} (h : aMem M e st L = some (k, st', L')) (hv : vL ρ st cst) (hH : vH ρ L cL) : ∃ cst' cL', pMem false M.1 (M.2.1.name == "<init>") e.2.1 e.2.2.2 cst cL = some (k, cst', cL') ∧ vL ρ st' cst' ∧ vH ρ L' cL' := by
  obtain ⟨pc, i, len, a⟩ := e
  unfold aMem at h
  simp only at h ⊢
  split at h
  · rename_i r hr
    cases h
    exact as_mem hr hv hH
  · split at h
    · split at h
      · split at h
        · rename_i q hq
          split at h
          · rename_i hc
            obtain ⟨j, h1, h2⟩ := omap h
            cases h2
            obtain ⟨w, _, rfl, hw, _, _, rfl, rfl, _, m, rfl, rfl, hr⟩ := hv
            obtain ⟨x, rfl⟩ := vR_int hw hc.2
            obtain ⟨es, g1, g2⟩ := vH_get hH hq
            obtain ⟨y, hy⟩ : ∃ y, narrow (pAty q.1) (.int x) = .int y := by
              rcases hc.1 with z | z <;> rw [z] <;> exact ⟨_, rfl⟩
            refine ⟨m, cL.set _ (q.1, es.set j (narrow (pAty q.1) (.int x))), ?_, hr, vH_set hH (vL_set g2 (by rw [hy]; exact vR_top y))⟩
            simp only [pMem, g1]
            rw [if_pos ⟨hc.1, rfl⟩, vL_len g2, h1]
            rfl
          · cases h
        · cases h
      · cases h
    · cases h
theorem as_arg {e : pEn} {st cst : List Value} {L cL : pHp} {q : Nat × List Value × List Value} (h : pArg e st L = some q) (hv : vL ρ st cst) (hH : vH ρ L cL) : ∃ as rest, pArg e cst cL = some (q.1, as, rest) ∧ vL ρ q.2.1 as ∧ vL ρ q.2.2 rest := by
  unfold pArg at h
  simp only at h
  split at h
  · rename_i hc
    have hc' : e.2.2.1 = 3 ∧ e.2.2.2 < 4000 ∧ e.2.2.2 % 1000 < pMs.length ∧ (pMt (e.2.2.2 % 1000)).2.2.2.2.2 ≤ cst.length := ⟨hc.1, hc.2.1, hc.2.2.1, by rw [vL_len hv]; exact hc.2.2.2⟩
    have ht := vL_rev (vL_take (pMt (e.2.2.2 % 1000)).2.2.2.2.2 hv)
    have hd := vL_drop (pMt (e.2.2.2 % 1000)).2.2.2.2.2 hv
    split at h
    · rename_i hi
      split at h
      · rename_i hcat
        cases h
        refine ⟨_, _, ?_, ht, hd⟩
        unfold pArg
        simp only
        rw [if_pos hc', hi]
        simp only
        rw [if_pos (by rw [vL_cats hd]; exact hcat)]
      · cases h
    · rename_i hi
      split at h
      · rename_i o r hdr
        split at h
        · rename_i hcat
          cases h
          rw [hdr] at hd
          obtain ⟨b, m, g1, g2, g3⟩ := hd
          have g2 : b = .ref o := g2
          subst g2
          obtain ⟨q', hq', hq1⟩ := omap hcat.2.1
          obtain ⟨es, k1, k2⟩ := vH_get hH hq'
          refine ⟨.ref o :: (cst.take (pMt (e.2.2.2 % 1000)).2.2.2.2.2).reverse, m, ?_, ⟨_, _, rfl, rfl, ht⟩, g3⟩
          unfold pArg
          simp only
          rw [if_pos hc', hi]
          simp only [g1]
          rw [if_pos ⟨by rw [vL_cats g3]; exact hcat.1, by rw [k1]; exact congrArg some hq1, hcat.2.2⟩]
        · cases h
      · rename_i u r hdr
        split at h
        · rename_i hcat
          cases h
          rw [hdr] at hd
          obtain ⟨b, m, g1, g2, g3⟩ := hd
          obtain ⟨c1, rfl, c3⟩ := hcat
          have g2 := vR_low g2 u0
          subst g2
          refine ⟨.float 0 :: (cst.take (pMt (e.2.2.2 % 1000)).2.2.2.2.2).reverse, m, ?_, ⟨_, _, rfl, vR_fl u0, ht⟩, g3⟩
          unfold pArg
          simp only
          rw [if_pos hc', hi]
          simp only [g1]
          rw [if_pos ⟨by rw [vL_cats g3]; exact c1, trivial, c3⟩]
        · cases h
      · cases h
    · rename_i hi
      split at h
      · rename_i o r hdr
        split at h
        · rename_i hcat
          cases h
          rw [hdr] at hd
          obtain ⟨b, m, g1, g2, g3⟩ := hd
          have g2 : b = .ref o := g2
          subst g2
          refine ⟨.ref o :: (cst.take (pMt (e.2.2.2 % 1000)).2.2.2.2.2).reverse, m, ?_, ⟨_, _, rfl, rfl, ht⟩, g3⟩
          unfold pArg
          simp only
          rw [if_pos hc', hi]
          simp only [g1]
          rw [if_pos ⟨by rw [vL_cats g3]; exact hcat.1, hcat.2⟩]
        · cases h
      · cases h
    · cases h
  · cases h
theorem as_ret {rt : Option FieldType} {e : pEn} {st cst : List Value} {rv : Option Value} (h : aRet rt e st = some rv) (hv : vL ρ st cst) : ∃ crv, pRet rt e cst = some crv ∧ vO ρ rv crv := by
  obtain ⟨pc, i, len, a⟩ := e
  unfold aRet at h
  simp only at h
  split at h
  · rename_i r hr
    cases h
    unfold pRet at hr ⊢
    simp only at hr ⊢
    split at hr
    · rename_i h1
      rw [if_pos h1]
      split at hr
      · split at hr
        · rename_i x ty
          split at hr
          · rename_i hn
            cases hr
            obtain ⟨_, m, rfl, rfl, hm⟩ := hv
            have hm : m = [] := hm
            subst hm
            exact ⟨_, by simp only; rw [if_pos hn], _, rfl, rfl⟩
          · cases hr
        · cases hr
      · split at hr
        · cases hr
          obtain ⟨_, m, rfl, rfl, hm⟩ := hv
          have hm : m = [] := hm
          subst hm
          exact ⟨_, rfl, _, rfl, rfl⟩
        · cases hr
      · split at hr
        · cases hr
          have hv : cst = [] := hv
          subst hv
          exact ⟨_, rfl, rfl⟩
        · cases hr
      · cases hr
    · cases hr
  · split at h
    · split at h
      · rename_i hc
        cases h
        obtain ⟨w, m, rfl, hw, hm⟩ := hv
        have hm : m = [] := hm
        subst hm
        obtain ⟨x, rfl⟩ := vR_int hw hc.1
        refine ⟨some (.int x), ?_, _, rfl, hw⟩
        unfold pRet
        simp only
        rw [if_pos hc.2.2, hc.2.1]
        exact if_pos rfl
      · cases h
    · cases h
theorem as_succ {M : pMe} {e : pEn} {env : aEv} (he : aEn ρ env) {lv clv : pLv} {st cst : List Value} {L cL : pHp} {f : Nat} {l : List aSt} (h : aSucc M e env lv st L f = some l) (hl : vV ρ lv clv) (hv : vL ρ st cst) (hH : vH ρ L cL) : ∃ t ∈ l, aEn ρ t.1 ∧ ∃ ct : Nat × pLv × List Value × pHp, pStp M e clv cst cL ct ∧ ct.1 = t.2.1 ∧ vV ρ t.2.2.1 ct.2.1 ∧ vL ρ t.2.2.2.1 ct.2.2.1 ∧ vH ρ t.2.2.2.2 ct.2.2.2 := by
  have hmem : ∀ r : Nat × List Value × pHp, aMem M e st L = some r → (if e.2.2.1 = r.1 then some [(env, e.1 + r.1, lv, r.2.1, r.2.2)] else none) = some l → ∃ t ∈ l, aEn ρ t.1 ∧ ∃ ct : Nat × pLv × List Value × pHp, pStp M e clv cst cL ct ∧ ct.1 = t.2.1 ∧ vV ρ t.2.2.1 ct.2.1 ∧ vL ρ t.2.2.2.1 ct.2.2.1 ∧ vH ρ t.2.2.2.2 ct.2.2.2 := by
    intro r hr h
    split at h
    · rename_i hk
      cases h
      obtain ⟨cst', cL', g1, g2, g3⟩ := as_amem hr hv hH
      rw [← hk] at g1
      exact ⟨_, List.mem_cons_self, he, _, Or.inr (Or.inr (Or.inr (Or.inr ⟨cst', cL', g1, rfl⟩))), by rw [hk], hl, g2, g3⟩
    · cases h
  unfold aSucc at h
  split at h
  · split at h
    · rename_i r hr
      split at h
      · rename_i hk
        cases h
        obtain ⟨cst', g1, g2⟩ := as_astk hr hv
        rw [← hk] at g1
        exact ⟨_, List.mem_cons_self, he, _, Or.inl ⟨cst', g1, rfl⟩, by rw [hk], hl, g2, hH⟩
      · cases h
    · cases h
  · split at h
    · rename_i r hr
      split at h
      · rename_i hk
        cases h
        obtain ⟨clv', cst', g1, g2, g3⟩ := as_loc hr hl hv
        rw [← hk] at g1
        exact ⟨_, List.mem_cons_self, he, _, Or.inr (Or.inl ⟨clv', cst', g1, rfl⟩), by rw [hk], g2, g3, hH⟩
      · cases h
    · cases h
  · obtain ⟨t, t1, t2, t3, t4, cst', t5, t6⟩ := as_ajmp he h hv
    exact ⟨t, t1, t2, _, Or.inr (Or.inr (Or.inl ⟨_, cst', t5, rfl⟩)), rfl, by rw [t3]; exact hl, t6, by rw [t4]; exact hH⟩
  · split at h
    · rename_i r hr
      split at h
      · rename_i hk
        cases h
        obtain ⟨cst', g1, g2⟩ := as_xtr hr hv
        rw [← hk] at g1
        exact ⟨_, List.mem_cons_self, he, _, Or.inr (Or.inr (Or.inr (Or.inl ⟨cst', g1, rfl⟩))), by rw [hk], hl, g2, hH⟩
      · cases h
    · split at h
      · rename_i r hr
        exact hmem r hr h
      · cases h
  · split at h
    · rename_i r hr
      exact hmem r hr h
    · cases h
theorem adrop_mem {pc : Nat} : ∀ {l : List pEn} {x : pEn}, x ∈ aDrop pc l → x ∈ l
  | [], _, h => nomatch h
  | e :: l, x, h => by
    rw [aDrop] at h
    split at h
    · exact h
    · exact List.mem_cons_of_mem _ (adrop_mem h)
theorem ago_mem {pc : Nat} {tab tl : List pEn} (h : ∀ x ∈ tl, x ∈ tab) : ∀ x ∈ aGo pc tab tl, x ∈ tab := by
  intro x hx
  unfold aGo at hx
  split at hx
  · split at hx
    · exact h x hx
    · exact adrop_mem hx
  · exact adrop_mem hx
theorem vO_list {r w : Option Value} (h : vO ρ r w) : vL ρ r.toList w.toList := by
  cases r with
  | none => have h : w = none := h; rw [h]; rfl
  | some v => obtain ⟨x, rfl, hx⟩ := h; exact ⟨x, [], rfl, hx, rfl⟩
/-- what a call with unknowns must tell -/
def aSnd (ρ : Nat → Int32) (d : Nat) (call : aCl) : Prop := ∀ (K : Nat) (as : List Value) (env : aEv) (L : pHp) (k : aK), call K as env L k = true → ∀ (cas : List Value) (cL : pHp), aEn ρ env → vL ρ as cas → vH ρ L cL → ∃ (env' : aEv) (rv : Option Value) (L' : pHp) (crv : Option Value) (cL' : pHp), pEx d K cas cL crv cL' ∧ aEn ρ env' ∧ vO ρ rv crv ∧ vH ρ L' cL' ∧ k env' rv L' = true
set_option maxHeartbeats 4000000 in
theorem as_loop {d : Nat} {call : aCl} (hcall : aSnd ρ d call) {M : pMe} {tab : List pEn} {k : aK} : ∀ (n pc : Nat) (cs : List pEn) (env : aEv) (lv : pLv) (st : List Value) (L : pHp), aLoop call M tab k n pc cs env lv st L = true → (∀ x ∈ cs, x ∈ tab) → ∀ (clv : pLv) (cst : List Value) (cL : pHp), aEn ρ env → vV ρ lv clv → vL ρ st cst → vH ρ L cL →
    ∃ (env' : aEv) (rv : Option Value) (L' : pHp) (crv : Option Value) (cL' : pHp), (∃ n', pLoop (pEx d) M tab n' pc clv cst cL crv cL') ∧ aEn ρ env' ∧ vO ρ rv crv ∧ vH ρ L' cL' ∧ k env' rv L' = true := by
  intro n
  induction n with
  | zero => intro pc cs env lv st L h; cases h
  | succ n ih =>
    intro pc cs env lv st0 L h hcs clv cst cL he hl hv0 hH
    unfold aLoop at h
    split at h
    · cases h
    · rename_i e tl
      split at h
      · rename_i hpc
        have hv := vL_aV he hv0
        have hmem := hcs e List.mem_cons_self
        have htl : ∀ x ∈ tl, x ∈ tab := fun x hx => hcs x (List.mem_cons_of_mem _ hx)
        split at h
        · split at h
          · rename_i rv hr
            obtain ⟨crv, g1, g2⟩ := as_ret hr hv
            exact ⟨env, rv, L, crv, cL, ⟨1, e, hmem, hpc.1, hpc.2, Or.inl ⟨g1, rfl⟩⟩, he, g2, hH, h⟩
          · cases h
        · split at h
          · rename_i q hq
            obtain ⟨as, rest, g1, g2, g3⟩ := as_arg hq hv hH
            obtain ⟨env1, r1, L1, cr1, cL1, c1, c2, c3, c4, c5⟩ := hcall _ _ _ _ _ h as cL he g2 hH
            obtain ⟨env', rv, L', crv, cL', ⟨n', d1⟩, d2⟩ := ih _ _ _ _ _ _ c5 (ago_mem htl) clv (cr1.toList ++ rest) cL1 c2 hl (vL_app (vO_list c3) g3) c4
            exact ⟨env', rv, L', crv, cL', ⟨n' + 1, e, hmem, hpc.1, hpc.2, Or.inr (Or.inr ⟨_, cr1, cL1, g1, c1, d1⟩)⟩, d2⟩
          · split at h
            · rename_i r hr
              split at h
              · rename_i hk
                obtain ⟨cst', cL2, g1, g2, g3⟩ := as_amem hr hv hH
                rw [← hk] at g1 h
                obtain ⟨env', rv, L', crv, cL', ⟨n', d1⟩, d2⟩ := ih _ _ _ _ _ _ h (ago_mem htl) clv cst' cL2 he hl g2 g3
                exact ⟨env', rv, L', crv, cL', ⟨n' + 1, e, hmem, hpc.1, hpc.2, Or.inr (Or.inl ⟨(e.1 + e.2.2.1, clv, cst', cL2), Or.inr (Or.inr (Or.inr (Or.inr ⟨cst', cL2, g1, rfl⟩))), by rw [hpc.1]; exact d1⟩)⟩, d2⟩
              · cases h
            · cases h
        · split at h
          · rename_i l hs
            obtain ⟨t, t1, t2, ct, t3, t4, t5, t6, t7⟩ := as_succ he hs hl hv hH
            have h1 := List.all_eq_true.mp h t t1
            obtain ⟨env', rv, L', crv, cL', ⟨n', d1⟩, d2⟩ := ih _ _ _ _ _ _ h1 (ago_mem htl) ct.2.1 ct.2.2.1 ct.2.2.2 t2 t5 t6 t7
            exact ⟨env', rv, L', crv, cL', ⟨n' + 1, e, hmem, hpc.1, hpc.2, Or.inr (Or.inl ⟨ct, t3, by rw [t4]; exact d1⟩)⟩, d2⟩
          · cases h
      · cases h
theorem aSound {sm : aSm} {N : Nat} (hsm : ∀ (d K : Nat) (as : List Value) (L : pHp) (r : Option Value × pHp), sm K as L = some r → ∀ (cas : List Value) (cL : pHp), vL ρ as cas → vH ρ L cL → ∃ (crv : Option Value) (cL' : pHp), pEx (d + 1) K cas cL crv cL' ∧ vO ρ r.1 crv ∧ vH ρ r.2 cL') : ∀ d, aSnd ρ d (aEx sm N d) := by
  intro d
  induction d with
  | zero => intro K as env L k h; cases h
  | succ d ih =>
    intro K as env L k h cas cL he hv hH
    unfold aEx at h
    split at h
    · rename_i r hr
      obtain ⟨crv, cL', g1, g2, g3⟩ := hsm d K as L r hr cas cL hv hH
      exact ⟨env, r.1, r.2, crv, cL', g1, he, g2, g3, h⟩
    · rw [Bool.and_eq_true, decide_eq_true_eq] at h
      obtain ⟨env', rv, L', crv, cL', ⟨n', d1⟩, d2⟩ := as_loop ih N 0 _ env _ [] L h.2 (fun _ hx => hx) (lv_args 0 cas) [] cL he (vV_args hv) rfl hH
      exact ⟨env', rv, L', crv, cL', ⟨by rw [vL_sl hv]; exact h.1, n', d1⟩, d2⟩
end AES
