/-! CONTRACTS, AS FORMS: method, depth, arguments, what must hold of them, what must lie in memory, how many names these take, what may change, the kind of answer (0 int, 1 long, 9 none), what holds then, one of some ways (the answer's name is the next one), what lies in memory then. -/
abbrev qCt : Type := Nat × Nat × List qV × List qF × qMm × Nat × sSt × Nat × List (List qF) × List (Nat × Nat × Nat) × qF
def cK (c : qCt) : Nat := c.1
def cD (c : qCt) : Nat := c.2.1
def cA (c : qCt) : List qV := c.2.2.1
def cP (c : qCt) : List qF := c.2.2.2.1
def cM (c : qCt) : qMm := c.2.2.2.2.1
def cG (c : qCt) : Nat := c.2.2.2.2.2.1
def cS (c : qCt) : sSt := c.2.2.2.2.2.2.1
def cR (c : qCt) : Nat := c.2.2.2.2.2.2.2.1
def cO (c : qCt) : List (List qF) := c.2.2.2.2.2.2.2.2.1
def cT (c : qCt) : List (Nat × Nat × Nat) := c.2.2.2.2.2.2.2.2.2.1
/-- how much deeper it may go -/
def cE (c : qCt) : qF := c.2.2.2.2.2.2.2.2.2.2
noncomputable def qRv (rt : Nat) (z : Int) : Option sV := match rt with
  | 0 => some (0, z)
  | 1 => some (1, z)
  | _ => none
/-- a name, or from 100000 on a number -/
noncomputable def qTv (ρ : Nat → Int) (a : Nat) : Int := cond (Nat.blt a 100000) (ρ a) ((a : Int) - 100000)
noncomputable def qPost (c : qCt) (ρ : Nat → Int) (M : sM) : Option sV → sM → Prop := fun rv M' => ∃ ρ' : Nat → Int, (∀ a, a < cG c → ρ' a = ρ a) ∧ rv = qRv (cR c) (ρ' (cG c)) ∧ (∃ al ∈ cO c, ∀ f ∈ al, 0 ≤ qD ρ' f) ∧ (∀ q ∈ cT c, M' q.1 q.2.1 = qTv ρ' q.2.2) ∧ sI M' ∧ sF (cS c) M M'
noncomputable def qCokN (c : qCt) (N : Nat) : Prop := ∀ (J : pHp) (ρ : Nat → Int) (M : sM), ρ 0 = 1 → (∀ f ∈ cP c, 0 ≤ qD ρ f) → (∀ q ∈ cM c, M q.1 q.2.1 = qD ρ q.2.2) → sI M → (cD c : Int) + qD ρ (cE c) ≤ N → sX sLay N (cK c) J (qDS ρ (cA c)) M (qPost c ρ M)
noncomputable def qCok (c : qCt) : Prop := ∀ N, qCokN c N
/-! places that are looked at, one by one -/
abbrev qFm : Type := List qF × qMm × Nat
abbrev qFmH : Type := List qF × qMm × Nat × qHs
noncomputable def qTch (g : Nat) (lv : qLv) : qF → List qV → List qF → qMm → Nat → Option (List qV × qFm)
  | [], st, fs, mm, n => some (st, fs, mm, n)
  | q :: t, st, fs, mm, n => cond (zNg q.1) (match st[q.2]? with
      | some (0, _) => cond (qScA g n lv st fs mm) (qTch g lv t (st.set q.2 (0, [(1, n)])) (qPp fs (qInR n)) mm (n + 1)) none
      | some (1, _) => cond (qScA g n lv st fs mm) (qTch g lv t (st.set q.2 (1, [(1, n)])) (qPp fs (qInL n)) mm (n + 1)) none
      | _ => none) (match qFind mm q.1.toNat q.2 with
      | some _ => qTch g lv t st fs mm n
      | none => cond (qScA g n lv st fs mm && Nat.blt q.2 1000) (qTch g lv t st (qPp fs (qRf (sRg q.1.toNat q.2) n)) ((q.1.toNat, q.2, [(1, n)]) :: mm) (n + 1)) none)
theorem sr_sts {lay : List sCl} {d K : Nat} {J : pHp} {pc : Nat} {lv : sLv} {st st' : List sV} {M : sM} {Q : Option sV → sM → Prop} (h : st.map sE = st'.map sE) (k : sR lay d K J pc lv st M Q) : sR lay d K J pc lv st' M Q := by
  obtain ⟨n, rv, M', h1, h2⟩ := k
  exact ⟨n, rv, M', by rw [← h]; exact h1, h2⟩
section RUN
variable {d K : Nat} {J : pHp} {Q : Option sV → sM → Prop} {M0 : sM} {S : sSt} {g : Nat} {ρ0 : Nat → Int}
theorem qg_tch (hg1 : 0 < g) {pc : Nat} {lv : qLv} : ∀ {t : qF} {st : List qV} {fs : List qF} {mm : qMm} {n : Nat} {q : List qV × qFm}, qTch g lv t st fs mm n = some q → qG d K J Q M0 S g ρ0 pc lv q.1 q.2.1 q.2.2.1 → qG d K J Q M0 S g ρ0 pc lv st fs mm
  | [], st, fs, mm, n, q, h, k => by cases h; exact k
  | p :: t, st, fs, mm, n, q, h, k => by
    unfold qTch at h
    cases hz : zNg p.1 with
    | true =>
      rw [hz, cond_true] at h
      split at h
      · rename_i f hf0
        cases hsc : qScA g n lv st fs mm with
        | false => rw [hsc] at h; cases h
        | true =>
          rw [hsc, cond_true] at h
          have k2 := qg_tch hg1 h k
          intro ρ M hg h0 hf hm hI hF
          obtain ⟨e1, e2, e3, e4, e5, e6⟩ := qg_new (ρ1 := fun _ => (Int32.ofInt (qD ρ f)).toInt) hg1 hsc hg h0 hf hm
          have hnn : qUp ρ (fun _ => (Int32.ofInt (qD ρ f)).toInt) n n = (Int32.ofInt (qD ρ f)).toInt := qup_ge (Nat.le_refl n)
          have h3 := k2 _ M e1 e2 (fun f' hf' => by
            rcases qpp_mem hf' with h | h
            · exact e3 f' h
            · exact qinr_ok e2 hnn (i32_rng _) f' h) e4 hI hF
          rw [e5] at h3
          refine sr_sts ?_ h3
          rw [← e6]
          unfold qDS
          rw [List.map_set, List.map_set]
          refine List.ext_getElem? fun j => ?_
          by_cases hj : p.2 = j
          · subst hj
            have hlt : p.2 < (List.map sE (List.map (qDV (qUp ρ (fun _ => (Int32.ofInt (qD ρ f)).toInt) n)) st)).length := by
              rw [List.length_map, List.length_map]
              exact (List.getElem?_eq_some_iff.mp hf0).1
            rw [List.getElem?_set_self hlt, List.getElem?_map, List.getElem?_map, hf0]
            show some (Value.int (Int32.ofInt (qD _ [(1, n)]))) = some (Value.int (Int32.ofInt (qD _ f)))
            have e7 : qD (qUp ρ (fun _ => (Int32.ofInt (qD ρ f)).toInt) n) f = qD ρ f := qd_sc (fun a ha => qup_lt ha) (List.all_eq_true.mp (qsa hsc).2.2.1 (0, f) (List.mem_of_getElem? hf0))
            rw [qd_at, hnn, e7, show (1 : Int) * (Int32.ofInt (qD ρ f)).toInt = (Int32.ofInt (qD ρ f)).toInt by omega, i32_of]
          · rw [List.getElem?_set_ne hj]
      · rename_i f hf0
        cases hsc : qScA g n lv st fs mm with
        | false => rw [hsc] at h; cases h
        | true =>
          rw [hsc, cond_true] at h
          have k2 := qg_tch hg1 h k
          intro ρ M hg h0 hf hm hI hF
          obtain ⟨e1, e2, e3, e4, e5, e6⟩ := qg_new (ρ1 := fun _ => (Int64.ofInt (qD ρ f)).toInt) hg1 hsc hg h0 hf hm
          have hnn : qUp ρ (fun _ => (Int64.ofInt (qD ρ f)).toInt) n n = (Int64.ofInt (qD ρ f)).toInt := qup_ge (Nat.le_refl n)
          have h3 := k2 _ M e1 e2 (fun f' hf' => by
            rcases qpp_mem hf' with h | h
            · exact e3 f' h
            · exact qinl_ok e2 hnn (i64_rng _) f' h) e4 hI hF
          rw [e5] at h3
          refine sr_sts ?_ h3
          rw [← e6]
          unfold qDS
          rw [List.map_set, List.map_set]
          refine List.ext_getElem? fun j => ?_
          by_cases hj : p.2 = j
          · subst hj
            have hlt : p.2 < (List.map sE (List.map (qDV (qUp ρ (fun _ => (Int64.ofInt (qD ρ f)).toInt) n)) st)).length := by
              rw [List.length_map, List.length_map]
              exact (List.getElem?_eq_some_iff.mp hf0).1
            rw [List.getElem?_set_self hlt, List.getElem?_map, List.getElem?_map, hf0]
            show some (Value.long (Int64.ofInt (qD _ [(1, n)]))) = some (Value.long (Int64.ofInt (qD _ f)))
            have e7 : qD (qUp ρ (fun _ => (Int64.ofInt (qD ρ f)).toInt) n) f = qD ρ f := qd_sc (fun a ha => qup_lt ha) (List.all_eq_true.mp (qsa hsc).2.2.1 (1, f) (List.mem_of_getElem? hf0))
            rw [qd_at, hnn, e7, show (1 : Int) * (Int64.ofInt (qD ρ f)).toInt = (Int64.ofInt (qD ρ f)).toInt by omega, i64_of]
          · rw [List.getElem?_set_ne hj]
      · cases h
    | false =>
      rw [hz, cond_false] at h
      split at h
      · exact qg_tch hg1 h k
      · cases hsc : (qScA g n lv st fs mm && Nat.blt p.2 1000) with
        | false => rw [hsc] at h; cases h
        | true =>
          rw [hsc, cond_true] at h
          rw [Bool.and_eq_true] at hsc
          obtain ⟨hsc, hk1⟩ := hsc
          have k2 := qg_tch hg1 h k
          intro ρ M hg h0 hf hm hI hF
          obtain ⟨e1, e2, e3, e4, e5, e6⟩ := qg_new (ρ1 := fun _ => M p.1.toNat p.2) hg1 hsc hg h0 hf hm
          have hnn : qUp ρ (fun _ => M p.1.toNat p.2) n n = M p.1.toNat p.2 := qup_ge (Nat.le_refl n)
          have h3 := k2 _ M e1 e2 (fun f hf' => by
            rcases qpp_mem hf' with h | h
            · exact e3 f h
            · exact qrf_ok e2 hnn (fun r hr => hI.1 _ _ r hr) f h) (fun r hr => by
            rcases List.mem_cons.mp hr with rfl | hr
            · show M p.1.toNat (zIx _ p.2) = qD _ [(1, n)]
              rw [zix_b hk1, qd_at, hnn]; omega
            · exact e4 r hr) hI hF
          rw [e5, e6] at h3
          exact h3
/-! calls -/
noncomputable def qArg (i : Instr) (a : Nat) (st : List qV) (fs : List qF) (hs : qHs) : Option (List qV × List qV × qHs) :=
  cond (Nat.blt a 4000 && (Nat.blt (a % 1000) pMs.length && Nat.ble (pMt (a % 1000)).2.2.2.2.2 st.length)) (match i with
    | .invokestatic _ => cond (Nat.ble (qCat (st.drop (pMt (a % 1000)).2.2.2.2.2)) 8) (some ((st.take (pMt (a % 1000)).2.2.2.2.2).reverse, st.drop (pMt (a % 1000)).2.2.2.2.2, hs)) none
    | .invokevirtual _ => (match st.drop (pMt (a % 1000)).2.2.2.2.2 with
      | (2, x) :: r => (match qRef x with
        | some o => (match sLay[o]? with
          | some q => cond (Nat.ble (qCat r) 8 && (Nat.beq q.1 (pMt (a % 1000)).1 && Nat.blt (pMt (a % 1000)).1 13)) (some ((2, x) :: (st.take (pMt (a % 1000)).2.2.2.2.2).reverse, r, hs)) none
          | none => none)
        | none => (match hs with
          | [(j, 0)] :: u :: v :: t => (match sFm[j.toNat]? with
            | some (b, m, c, _) => cond (qEnt fs (qSub x (qCn (b : Int))) u && (qEnt fs (qSub (qCn ((b : Int) + m - 1)) x) v && (Nat.ble (qCat r) 8 && (Nat.beq c (pMt (a % 1000)).1 && Nat.blt (pMt (a % 1000)).1 13)))) (some ((2, x) :: (st.take (pMt (a % 1000)).2.2.2.2.2).reverse, r, t)) none
            | none => none)
          | _ => none))
      | (3, x) :: r => (match qKo x with
        | some 0 => cond (Nat.ble (qCat r) 8 && Nat.beq (pMt (a % 1000)).1 14) (some ((3, x) :: (st.take (pMt (a % 1000)).2.2.2.2.2).reverse, r, hs)) none
        | _ => none)
      | _ => none)
    | _ => none) none
theorem zm_cls {lay : List sCl} {M : sM} {J : pHp} {o : Nat} {c : sCl} (h : lay[o]? = some c) : ((sHp lay M ++ J)[o]?).map (fun q => q.1) = some c.1 := by
  rw [shj_at h]
  rfl
theorem qarg_ok {i : Instr} {pc a : Nat} {st as rest : List qV} {fs : List qF} {hs hs' : qHs} (h : qArg i a st fs hs = some (as, rest, hs')) {ρ : Nat → Int} (h0 : ρ 0 = 1) (hf : ∀ f ∈ fs, 0 ≤ qD ρ f) (M : sM) (J : pHp) : pArg (pc, i, 3, a) ((qDS ρ st).map sE) (sHp sLay M ++ J) = some (a % 1000, (qDS ρ as).map sE, (qDS ρ rest).map sE) := by
  unfold qArg at h
  cases h1 : (Nat.blt a 4000 && (Nat.blt (a % 1000) pMs.length && Nat.ble (pMt (a % 1000)).2.2.2.2.2 st.length)) with
  | false => rw [h1] at h; cases h
  | true =>
    rw [h1, cond_true] at h
    rw [Bool.and_eq_true, Bool.and_eq_true] at h1
    have hlen : ((qDS ρ st).map sE).length = st.length := by unfold qDS; rw [List.length_map, List.length_map]
    have hdrop : ((qDS ρ st).map sE).drop (pMt (a % 1000)).2.2.2.2.2 = (qDS ρ (st.drop (pMt (a % 1000)).2.2.2.2.2)).map sE := by unfold qDS; rw [List.map_drop, List.map_drop]
    have htake : (((qDS ρ st).map sE).take (pMt (a % 1000)).2.2.2.2.2).reverse = (qDS ρ (st.take (pMt (a % 1000)).2.2.2.2.2).reverse).map sE := by unfold qDS; rw [List.map_reverse, List.map_reverse, List.map_take, List.map_take]
    have hc : (3 : Nat) = 3 ∧ a < 4000 ∧ a % 1000 < pMs.length ∧ (pMt (a % 1000)).2.2.2.2.2 ≤ ((qDS ρ st).map sE).length := ⟨rfl, zblt h1.1, zblt h1.2.1, by rw [hlen]; exact Nat.le_of_ble_eq_true h1.2.2⟩
    unfold pArg
    dsimp only
    rw [if_pos hc]
    split at h
    · obtain ⟨h2, h3⟩ := zcond h
      cases h3
      dsimp only
      rw [hdrop, htake, if_pos (by rw [qcat_ok]; exact Nat.le_of_ble_eq_true h2)]
    · split at h
      · rename_i x r hd
        rw [hd] at hdrop
        have hV : ∀ (o : Nat), qD ρ x = (o : Int) → Nat.ble (qCat r) 8 = true → (∃ c, sLay[o]? = some c ∧ c.1 = (pMt (a % 1000)).1) → (pMt (a % 1000)).1 < 13 → (match ((qDS ρ st).map sE).drop (pMt (a % 1000)).2.2.2.2.2 with
            | Value.ref o :: r => if (r.map fun v : Value => v.category).sum ≤ 8 ∧ ((sHp sLay M ++ J)[o]?).map (fun q => q.1) = some (pMt (a % 1000)).1 ∧ (pMt (a % 1000)).1 < 13 then some (a % 1000, Value.ref o :: (((qDS ρ st).map sE).take (pMt (a % 1000)).2.2.2.2.2).reverse, r) else none
            | Value.float u :: r => if (r.map fun v : Value => v.category).sum ≤ 8 ∧ u = 0 ∧ (pMt (a % 1000)).1 = 14 then some (a % 1000, Value.float u :: (((qDS ρ st).map sE).take (pMt (a % 1000)).2.2.2.2.2).reverse, r) else none
            | _ => none) = some (a % 1000, (qDS ρ ((2, x) :: (st.take (pMt (a % 1000)).2.2.2.2.2).reverse)).map sE, (qDS ρ r).map sE) := by
          intro o hx hc8 hcl h13
          obtain ⟨c, hl, hcc⟩ := hcl
          rw [hdrop]
          show (if (((qDS ρ r).map sE).map fun v : Value => v.category).sum ≤ 8 ∧ ((sHp sLay M ++ J)[(qD ρ x).toNat]?).map (fun q => q.1) = some (pMt (a % 1000)).1 ∧ (pMt (a % 1000)).1 < 13 then some (a % 1000, Value.ref (qD ρ x).toNat :: (((qDS ρ st).map sE).take (pMt (a % 1000)).2.2.2.2.2).reverse, (qDS ρ r).map sE) else none) = some (a % 1000, Value.ref (qD ρ x).toNat :: (qDS ρ (st.take (pMt (a % 1000)).2.2.2.2.2).reverse).map sE, (qDS ρ r).map sE)
          rw [if_pos, htake]
          refine ⟨by rw [qcat_ok]; exact Nat.le_of_ble_eq_true hc8, ?_, h13⟩
          have e : (qD ρ x).toNat = o := by omega
          rw [e, zm_cls hl, hcc]
        split at h
        · rename_i o ho
          split at h
          · rename_i q hl
            obtain ⟨h2, h3⟩ := zcond h
            cases h3
            rw [Bool.and_eq_true, Bool.and_eq_true] at h2
            exact hV o (qref_ok h0 ho) h2.1 ⟨q, hl, Nat.eq_of_beq_eq_true h2.2.1⟩ (zblt h2.2.2)
          · cases h
        · split at h
          · rename_i j u v t
            split at h
            · rename_i b m c w hj
              obtain ⟨h2, h3⟩ := zcond h
              cases h3
              rw [Bool.and_eq_true, Bool.and_eq_true, Bool.and_eq_true, Bool.and_eq_true] at h2
              have hb1 := qd_ent h0 hf h2.1
              have hb2 := qd_ent h0 hf h2.2.1
              rw [qd_sub, qd_cn h0] at hb1 hb2
              obtain ⟨hl, -⟩ := sfm_at (List.mem_of_getElem? hj) (o := (qD ρ x).toNat) (by omega) (by omega)
              exact hV (qD ρ x).toNat (by omega) h2.2.2.1 ⟨_, hl, Nat.eq_of_beq_eq_true h2.2.2.2.1⟩ (zblt h2.2.2.2.2)
            · cases h
          · cases h
      · rename_i x r hd
        rw [hd] at hdrop
        split at h
        · rename_i hx
          obtain ⟨h2, h3⟩ := zcond h
          cases h3
          rw [Bool.and_eq_true] at h2
          have ex := qd_ko h0 hx
          dsimp only
          rw [hdrop]
          show (if (((qDS ρ _).map sE).map fun v : Value => v.category).sum ≤ 8 ∧ UInt32.ofNat (qD ρ x).toNat = 0 ∧ (pMt (a % 1000)).1 = 14 then some (a % 1000, Value.float (UInt32.ofNat (qD ρ x).toNat) :: (((qDS ρ st).map sE).take (pMt (a % 1000)).2.2.2.2.2).reverse, (qDS ρ _).map sE) else none) = some (a % 1000, Value.float (UInt32.ofNat (qD ρ x).toNat) :: (qDS ρ (st.take (pMt (a % 1000)).2.2.2.2.2).reverse).map sE, (qDS ρ _).map sE)
          rw [if_pos ⟨by rw [qcat_ok]; exact Nat.le_of_ble_eq_true h2.1, by rw [ex]; rfl, Nat.eq_of_beq_eq_true h2.2⟩, htake]
        · cases h
      · cases h
    · cases h
/-- facts that others show, one hint each -/
noncomputable def qEnts (fs : List qF) : List qF → qHs → Option qHs
  | [], hs => some hs
  | f :: l, h :: hs => cond (qEnt fs f h) (qEnts fs l hs) none
  | _ :: _, [] => none
theorem qents_ok {ρ : Nat → Int} (h0 : ρ 0 = 1) {fs : List qF} (hf : ∀ f ∈ fs, 0 ≤ qD ρ f) : ∀ {l : List qF} {hs hs' : qHs}, qEnts fs l hs = some hs' → ∀ f ∈ l, 0 ≤ qD ρ f
  | [], _, _, _, f, h => nomatch h
  | g :: l, [], _, h, _, _ => nomatch h
  | g :: l, a :: hs, hs', h, f, hm => by
    unfold qEnts at h
    cases h1 : qEnt fs g a with
    | false => rw [h1] at h; cases h
    | true =>
      rw [h1, cond_true] at h
      rcases List.mem_cons.mp hm with rfl | hm
      · exact qd_ent h0 hf h1
      · exact qents_ok h0 hf h f hm
noncomputable def qSg (l : List qF) (a : Nat) : qF := (l[a]?).getD []
/-- names of a contract in the caller: those ahead of g by the list, the others new ones from n on -/
noncomputable def qSn (l : List qF) (g n a : Nat) : qF := cond (Nat.blt a g) (qSg l a) [(1, n + (a - g))]
noncomputable def qCall (cs : List qCt) (c0 : qCt) (S : sSt) (g : Nat) (K2 : Nat) (as rest : List qV) (lv : qLv) (fs : List qF) (mm : qMm) (n : Nat) (hs : qHs) : Option (List qV × List (List qF) × qMm × Nat × qHs) := match hs with
  | [(j, 0)] :: hs1 => (match cs[j.toNat]? with
    | some c => (match qEnts fs (qSub (qAdd (cE c0) (qCn ((cD c0 : Int) - 1))) (qAdd (qSb (qSg ([(1, 0)] :: hs1.take (cG c - 1))) (cE c)) (qCn (cD c : Int))) :: (cP c).map (qSb (qSg ([(1, 0)] :: hs1.take (cG c - 1))))) (hs1.drop (cG c - 1)) with
      | some hs2 => cond (Nat.beq (cK c) K2 && (true && ((as == (cA c).map (fun v => (v.1, qSb (qSg ([(1, 0)] :: hs1.take (cG c - 1))) v.2))) && ((cM c).all (fun q => Nat.blt q.2.1 1000 && qFe mm q.1 q.2.1 (qSb (qSg ([(1, 0)] :: hs1.take (cG c - 1))) q.2.2)) && (sSs (cS c) S && (qScA g n lv rest fs mm && (Nat.blt 0 (cG c) && ((cT c).all (fun q => Nat.blt q.2.1 1000) && (hs1.take (cG c - 1)).all (qSc n))))))))) (some ((match cR c with | 0 => (0, [(1, n)]) :: rest | 1 => (1, [(1, n)]) :: rest | _ => rest), (cO c).map (fun al => qPp fs (al.map (qSb (qSn ([(1, 0)] :: hs1.take (cG c - 1)) (cG c) n)))), (cT c).map (fun q => (q.1, q.2.1, cond (Nat.blt q.2.2 100000) (qSn ([(1, 0)] :: hs1.take (cG c - 1)) (cG c) n q.2.2) (qCn ((q.2.2 : Int) - 100000)))) ++ mm.filter (fun q => !(cond (Nat.blt q.2.1 1000) (sIn (cS c) q.1 q.2.1) (sInC (cS c) q.1))), n + 1 + (cT c).length, hs2)) none
      | none => none)
    | none => none)
  | _ => none
theorem qcall_ok {c0 : qCt} (hDd : ∀ ρ : Nat → Int, (∀ a, a < g → ρ a = ρ0 a) → (cD c0 : Int) + qD ρ (cE c0) ≤ (d + 1 : Nat)) (hg1 : 0 < g) {cs : List qCt} (hcs : ∀ c ∈ cs, qCokN c d) {i : Instr} {pc a n : Nat} {as rest st' st : List qV} {lv : qLv} {fs : List qF} {fl : List (List qF)} {mm mm' : qMm} {n' : Nat} {hs hs' hs0 hs1 : qHs} (he : (pc, i, 3, a) ∈ pTs.getD K []) (ha : a < 99999) (harg : qArg i a st fs hs0 = some (as, rest, hs1)) (h : qCall cs c0 S g (a % 1000) as rest lv fs mm n hs = some (st', fl, mm', n', hs')) (k : ∀ fs' ∈ fl, qG d K J Q M0 S g ρ0 (pc + 3) lv st' fs' mm') : qG d K J Q M0 S g ρ0 pc lv st fs mm := by
  intro ρ M hg h0 hf hm hI hF
  unfold qCall at h
  split at h
  · rename_i j hs2
    split at h
    · rename_i c hj
      have hc := hcs c (List.mem_of_getElem? hj)
      split at h
      · rename_i hs3 hen
        obtain ⟨h1, h2⟩ := zcond h
        cases h2
        rw [Bool.and_eq_true, Bool.and_eq_true, Bool.and_eq_true, Bool.and_eq_true, Bool.and_eq_true, Bool.and_eq_true, Bool.and_eq_true, Bool.and_eq_true] at h1
        obtain ⟨g1, g2, g3, g4, g5, g6, g7, g9, g8⟩ := h1
        generalize hσ : ([(1, 0)] :: hs2.take (cG c - 1) : List qF) = σ at *
        have hcg : 0 < cG c := zblt g7
        have hσsc : ∀ b, qSc n (qSg σ b) = true := by
          intro b
          unfold qSg
          have hn0 : Nat.blt 0 n = true := Nat.ble_eq_true_of_le (by have := (qsa g6).1; omega)
          cases hb : σ[b]? with
          | none => rfl
          | some f =>
            have hmem := List.mem_of_getElem? hb
            rw [← hσ] at hmem
            rcases List.mem_cons.mp hmem with rfl | hmem
            · show (Nat.blt 0 n && true) = true
              rw [hn0]; rfl
            · exact List.all_eq_true.mp g8 f hmem
        let ρc : Nat → Int := fun b => qD ρ (qSg σ b)
        have hρc0 : ρc 0 = 1 := by
          show qD ρ (qSg σ 0) = 1
          rw [← hσ]
          show qD ρ [(1, 0)] = 1
          rw [qd_at, h0]; rfl
        have hcP : ∀ f ∈ cP c, 0 ≤ qD ρc f := by
          intro f hf'
          have := qents_ok h0 hf hen _ (List.mem_cons_of_mem _ (List.mem_map_of_mem hf'))
          rw [qd_sb] at this
          exact this
        have hcM : ∀ q ∈ cM c, M q.1 q.2.1 = qD ρc q.2.2 := by
          intro q hq
          have h5 := List.all_eq_true.mp g4 q hq
          rw [Bool.and_eq_true] at h5
          have h6 : qFind mm q.1 q.2.1 = some (qSb (qSg σ) q.2.2) := qfe_ok h5.2
          have h7 := qfind_ok hm h6
          rw [zix_b h5.1] at h7
          rw [h7, qd_sb]
        have hx := hc J ρc M hρc0 hcP hcM hI (by
          have h8 := qents_ok h0 hf hen _ List.mem_cons_self
          rw [qd_sub, qd_add, qd_add, qd_cn h0, qd_cn h0, qd_sb] at h8
          have h9 := hDd ρ hg
          have h10 : qD ρc (cE c) = qD (fun a => qD ρ (qSg σ a)) (cE c) := rfl
          rw [h10]
          omega)
        rw [Nat.eq_of_beq_eq_true g1] at hx
        have has : qDS ρc (cA c) = qDS ρ as := by
          have e : as = (cA c).map (fun v => (v.1, qSb (qSg σ) v.2)) := eq_of_beq g3
          rw [e]
          unfold qDS
          rw [List.map_map]
          refine List.map_congr_left fun v _ => ?_
          show (v.1, qD ρc v.2) = (v.1, qD ρ (qSb (qSg σ) v.2))
          rw [qd_sb]
        rw [has] at hx
        refine sr_call he ha (qarg_ok harg h0 hf M J) (sx_mono hx ?_) (n := 0)
        rintro rv M' ⟨ρ', hr1, hr2, ⟨al, hal, hr3⟩, hr4, hr5, hr6⟩
        obtain ⟨e1, e2, e3, e4, e5, e6⟩ := qg_new (ρ1 := fun b => ρ' (cG c + (b - n))) hg1 g6 hg h0 hf hm
        generalize hρn : qUp ρ (fun b => ρ' (cG c + (b - n))) n = ρn at *
        have hlt : ∀ b, b < n → ρn b = ρ b := fun b hb => by rw [← hρn]; exact qup_lt hb
        have hge : ∀ b, ρn (n + b) = ρ' (cG c + b) := fun b => by
          rw [← hρn, qup_ge (by omega), show n + b - n = b by omega]
        have hsn : ∀ b, qD ρn (qSn σ (cG c) n b) = ρ' b := by
          intro b
          unfold qSn
          cases hb : Nat.blt b (cG c) with
          | true =>
            show qD ρn (qSg σ b) = ρ' b
            rw [qd_sc hlt (hσsc b), hr1 b (zblt hb)]
          | false =>
            show qD ρn [(1, n + (b - cG c))] = ρ' b
            have hb2 : cG c ≤ b := by
              rcases Nat.lt_or_ge b (cG c) with h | h
              · have : Nat.blt b (cG c) = true := Nat.ble_eq_true_of_le h
                rw [this] at hb; cases hb
              · exact h
            rw [qd_at, hge, show cG c + (b - cG c) = b by omega]
            omega
        have h3 := k _ (List.mem_map_of_mem hal) ρn M' e1 e2 (fun f hf' => by
          rcases qpp_mem hf' with hf' | hf'
          · exact e3 f hf'
          · obtain ⟨f0, hf0, rfl⟩ := List.mem_map.mp hf'
            rw [qd_sb, show (fun a => qD ρn (qSn σ (cG c) n a)) = ρ' from funext hsn]
            exact hr3 f0 hf0) (fun q hq => by
          rcases List.mem_append.mp hq with hq | hq
          · obtain ⟨q0, hq0, rfl⟩ := List.mem_map.mp hq
            show M' q0.1 (zIx ρn q0.2.1) = qD ρn (cond (Nat.blt q0.2.2 100000) (qSn σ (cG c) n q0.2.2) (qCn ((q0.2.2 : Int) - 100000)))
            rw [zix_b (List.all_eq_true.mp g9 q0 hq0), hr4 q0 hq0]
            unfold qTv
            cases Nat.blt q0.2.2 100000 with
            | true => exact (hsn q0.2.2).symm
            | false => exact (qd_cn e2 _).symm
          · obtain ⟨hq1, hq2⟩ := List.mem_filter.mp hq
            rw [Bool.not_eq_true'] at hq2
            rw [hr6 _ _ (by
              cases hk : Nat.blt q.2.1 1000 with
              | true =>
                rw [hk, cond_true] at hq2
                rw [zix_b hk]
                exact hq2
              | false =>
                rw [hk, cond_false] at hq2
                exact sinc_ok hq2 _)]
            exact e4 q hq1) hr5 (sf_t hF hr6 g5)
        rw [e5] at h3
        have hst : qDS ρn (match cR c with | 0 => (0, [(1, n)]) :: rest | 1 => (1, [(1, n)]) :: rest | _ => rest) = rv.toList ++ qDS ρ rest := by
          rw [hr2]
          have hz : ρn n = ρ' (cG c) := hge 0
          unfold qRv
          split
          · show (0, qD ρn [(1, n)]) :: qDS ρn rest = (0, ρ' (cG c)) :: qDS ρ rest
            rw [qd_at, hz, e6, show (1 : Int) * ρ' (cG c) = ρ' (cG c) by omega]
          · show (1, qD ρn [(1, n)]) :: qDS ρn rest = (1, ρ' (cG c)) :: qDS ρ rest
            rw [qd_at, hz, e6, show (1 : Int) * ρ' (cG c) = ρ' (cG c) by omega]
          · exact e6
        rw [hst] at h3
        exact h3
      · cases h
    · cases h
  · cases h
end RUN
