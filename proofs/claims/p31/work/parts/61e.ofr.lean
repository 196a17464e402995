/-! Forces.ofRoad: two rows are filled; by induction over the counter. -/
def pRun (call : pCl) (M : pMe) (tab : List pEn) (pc : Nat) (lv : pLv) (st : List Value) (L : pHp) (rv : Option Value) (Lf : pHp) : Prop := ∃ n, pLoop call M tab n pc lv st L rv Lf
section RUN
variable {call : pCl} {M : pMe} {tab : List pEn} {lv : pLv} {st : List Value} {L : pHp} {rv : Option Value} {Lf : pHp}
theorem pr_stp (e : pEn) (he : e ∈ tab) (ha : e.2.2.2 < 99999) {t : Nat × pLv × List Value × pHp} (h : pStp M e lv st L t) (k : pRun call M tab t.1 t.2.1 t.2.2.1 t.2.2.2 rv Lf) : pRun call M tab e.1 lv st L rv Lf := by
  obtain ⟨n, k⟩ := k
  exact ⟨n + 1, e, he, rfl, ha, Or.inr (Or.inl ⟨t, h, k⟩)⟩
theorem pr_stk (pc : Nat) (i : Instr) (len a : Nat) (he : (pc, i, len, a) ∈ tab) (ha : a < 99999) {st' : List Value} (h : pStk i st = some (len, st')) (k : pRun call M tab (pc + len) lv st' L rv Lf) : pRun call M tab pc lv st L rv Lf := pr_stp (pc, i, len, a) he ha (Or.inl ⟨st', h, rfl⟩) k
theorem pr_loc (pc : Nat) (i : Instr) (len a : Nat) (he : (pc, i, len, a) ∈ tab) (ha : a < 99999) {lv' : pLv} {st' : List Value} (h : pLoc false M.2.2.2.1 i lv st = some (len, lv', st')) (k : pRun call M tab (pc + len) lv' st' L rv Lf) : pRun call M tab pc lv st L rv Lf := pr_stp (pc, i, len, a) he ha (Or.inr (Or.inl ⟨lv', st', h, rfl⟩)) k
theorem pr_jmp (pc : Nat) (i : Instr) (len a : Nat) (he : (pc, i, len, a) ∈ tab) (ha : a < 99999) {t : Nat} {st' : List Value} (h : pJmp i pc len st = some (t, st')) (k : pRun call M tab t lv st' L rv Lf) : pRun call M tab pc lv st L rv Lf := pr_stp (pc, i, len, a) he ha (Or.inr (Or.inr (Or.inl ⟨t, st', h, rfl⟩))) k
theorem pr_mem (pc : Nat) (i : Instr) (len a : Nat) (he : (pc, i, len, a) ∈ tab) (ha : a < 99999) {st' : List Value} {L' : pHp} (h : pMem false M.1 (M.2.1.name == "<init>") i a st L = some (len, st', L')) (k : pRun call M tab (pc + len) lv st' L' rv Lf) : pRun call M tab pc lv st L rv Lf := pr_stp (pc, i, len, a) he ha (Or.inr (Or.inr (Or.inr (Or.inr ⟨st', L', h, rfl⟩)))) k
theorem pr_end (pc : Nat) (i : Instr) (len a : Nat) (he : (pc, i, len, a) ∈ tab) (ha : a < 99999) (h : pRet M.2.2.2.2.1 (pc, i, len, a) st = some rv) : pRun call M tab pc lv st L rv L := ⟨1, _, he, rfl, ha, Or.inl ⟨h, rfl⟩⟩
end RUN
theorem pm_get {c : Nat} {ini : Bool} {x a o : Nat} {q : pOb} {v : Value} {r : List Value} {L : pHp} (hq : L[o]? = some q) (hc : q.1 = a / 100 ∧ q.1 < 13 ∧ a % 100 < pN q.1) (hv : q.2[a % 100]? = some v) : pMem false c ini (.getfield x) a (.ref o :: r) L = some (3, v :: r, L) := by
  simp only [pMem, hq]
  rw [if_pos hc, hv]
  rfl
theorem pm_put {c : Nat} {ini : Bool} {x a o : Nat} {q : pOb} {v : Value} {r : List Value} {L : pHp} (hq : L[o]? = some q) (hc : q.1 = a / 100 ∧ q.1 < 13 ∧ a % 100 < q.2.length ∧ pFit false c ini q.1 (a % 100) v = true) : pMem false c ini (.putfield x) a (v :: .ref o :: r) L = some (3, r, L.set o (q.1, q.2.set (a % 100) v)) := by
  simp only [pMem, hq]
  rw [if_pos hc]
theorem pm_len {c : Nat} {ini : Bool} {a o : Nat} {q : pOb} {r : List Value} {L : pHp} (hq : L[o]? = some q) (hc : 20 ≤ q.1 ∧ q.1 ≤ 25) : pMem false c ini .arraylength a (.ref o :: r) L = some (1, .int (Int32.ofNat q.2.length) :: r, L) := by
  simp only [pMem, hq]
  rw [if_pos hc]
theorem pm_ast {c : Nat} {ini : Bool} {a o j : Nat} {q : pOb} {x y : Int32} {r : List Value} {L : pHp} (hq : L[o]? = some q) (hc : q.1 = 20) (hj : pIx x q.2.length = some j) : pMem false c ini .iastore a (.int y :: .int x :: .ref o :: r) L = some (1, r, L.set o (q.1, q.2.set j (.int y))) := by
  simp only [pMem, hq]
  rw [if_pos ⟨hc, rfl⟩, hj]
  rfl
theorem pIx_nI {i n : Nat} (h : i < n) (hn : n < 2 ^ 31) : pIx (nI i) n = some i := by
  unfold pIx
  rw [if_neg (nI_in h hn), nI_clamp (by omega)]
/-- the filling of a row: for (i ..; i < row.length; i++) row[i] = -1 -/
theorem fl_loop {call : pCl} {M : pMe} {tab : List pEn} {rv : Option Value} {Lf : pHp} (hM : M.2.2.2.1 = 6) (p0 x au : Nat) (hau : au < 9000) (hT : ∀ e ∈ ([(p0, .iload 5, 2, 0), (p0 + 2, .aload_n 0, 1, 0), (p0 + 3, .getfield x, 3, au), (p0 + 6, .arraylength, 1, 0), (p0 + 7, .if_icmp .ge 17, 3, 0), (p0 + 10, .aload_n 0, 1, 0), (p0 + 11, .getfield x, 3, au), (p0 + 14, .iload 5, 2, 0), (p0 + 16, .iconst (-1), 1, 0), (p0 + 17, .iastore, 1, 0), (p0 + 18, .iinc 5 1, 3, 0), (p0 + 21, .goto (-21), 3, 0)] : List pEn), e ∈ tab)
    {f a : Nat} {q : pOb} (hq : q.1 = au / 100 ∧ q.1 < 13 ∧ au % 100 < pN q.1) (hv : q.2[au % 100]? = some (.ref a)) (hfa : f ≠ a) {v1 v2 v3 v4 : Value} (h4 : v4.category = 1) (n : Nat) (hn : n < 2 ^ 31) :
    ∀ (j i : Nat) (es : List Value) (L : pHp), i + j = n → es.length = n → (∀ k, k < i → es[k]? = some (.int (-1))) → L[a]? = some (20, es) → L[f]? = some q →
      pRun call M tab (p0 + 24) [(5, .int (nI n)), (0, .ref f), (1, v1), (2, v2), (3, v3), (4, v4)] [] (L.set a (20, List.replicate n (.int (-1)))) rv Lf → pRun call M tab p0 [(5, .int (nI i)), (0, .ref f), (1, v1), (2, v2), (3, v3), (4, v4)] [] L rv Lf := by
  intro j
  induction j with
  | zero =>
    intro i es L hij hes hall ha hf k
    have hi : i = n := by omega
    subst hi
    have he : es = List.replicate i (.int (-1)) := by
      apply List.ext_getElem?
      intro k
      by_cases hk : k < i
      · rw [hall k hk, List.getElem?_replicate, if_pos hk]
      · rw [List.getElem?_replicate, if_neg hk]
        exact List.getElem?_eq_none (by omega)
    have hL : L.set a (20, List.replicate i (.int (-1))) = L := by
      rw [← he]
      apply List.ext_getElem?
      intro k
      by_cases hk : k = a
      · subst hk
        rw [List.getElem?_set_self (List.getElem?_eq_some_iff.mp ha).1, ha]
      · rw [List.getElem?_set_ne (Ne.symm hk)]
    rw [hL] at k
    refine pr_loc p0 _ 2 0 (hT _ (List.mem_of_getElem? (i := 0) rfl)) (by decide) (st' := [.int (nI i)]) rfl ?_
    refine pr_loc (p0 + 2) _ 1 0 (hT _ (List.mem_of_getElem? (i := 1) rfl)) (by decide) (st' := [.ref f, .int (nI i)]) rfl ?_
    refine pr_mem (p0 + 3) _ 3 au (hT _ (List.mem_of_getElem? (i := 2) rfl)) (by omega) (pm_get hf hq hv) ?_
    refine pr_mem (p0 + 6) _ 1 0 (hT _ (List.mem_of_getElem? (i := 3) rfl)) (by decide) (pm_len ha ⟨by show 20 ≤ 20; decide, by show 20 ≤ 25; decide⟩) ?_
    refine pr_jmp (p0 + 7) _ 3 0 (hT _ (List.mem_of_getElem? (i := 4) rfl)) (by decide) (t := p0 + 24) (st' := []) ?_ k
    have hc : pCmp .ge (nI i) (Int32.ofNat es.length) = true := decide_eq_true (by rw [hes]; exact Int32.le_refl _)
    simp only [pJmp, if_true, hc, pTo]
    rw [if_pos (by omega)]
    simp only [Option.map_some, Option.some.injEq, Prod.mk.injEq, and_true]
    omega
  | succ j ih =>
    intro i es L hij hes hall ha hf k
    have hlt : i < n := by omega
    refine pr_loc p0 _ 2 0 (hT _ (List.mem_of_getElem? (i := 0) rfl)) (by decide) (st' := [.int (nI i)]) rfl ?_
    refine pr_loc (p0 + 2) _ 1 0 (hT _ (List.mem_of_getElem? (i := 1) rfl)) (by decide) (st' := [.ref f, .int (nI i)]) rfl ?_
    refine pr_mem (p0 + 3) _ 3 au (hT _ (List.mem_of_getElem? (i := 2) rfl)) (by omega) (pm_get hf hq hv) ?_
    refine pr_mem (p0 + 6) _ 1 0 (hT _ (List.mem_of_getElem? (i := 3) rfl)) (by decide) (pm_len ha ⟨by show 20 ≤ 20; decide, by show 20 ≤ 25; decide⟩) ?_
    refine pr_jmp (p0 + 7) _ 3 0 (hT _ (List.mem_of_getElem? (i := 4) rfl)) (by decide) (t := p0 + 10) (st' := []) ?_ ?_
    · have hc : pCmp .ge (nI i) (Int32.ofNat es.length) = false := decide_eq_false (by rw [hes]; exact nI_ge hlt hn)
      simp only [pJmp, if_true, hc, pTo, Bool.false_eq_true, if_false]
      rw [if_pos (by omega)]
      rfl
    refine pr_loc (p0 + 10) _ 1 0 (hT _ (List.mem_of_getElem? (i := 5) rfl)) (by decide) (st' := [.ref f]) rfl ?_
    refine pr_mem (p0 + 11) _ 3 au (hT _ (List.mem_of_getElem? (i := 6) rfl)) (by omega) (pm_get hf hq hv) ?_
    refine pr_loc (p0 + 14) _ 2 0 (hT _ (List.mem_of_getElem? (i := 7) rfl)) (by decide) (st' := [.int (nI i), .ref a]) rfl ?_
    refine pr_stk (p0 + 16) _ 1 0 (hT _ (List.mem_of_getElem? (i := 8) rfl)) (by decide) (st' := [.int (-1), .int (nI i), .ref a]) rfl ?_
    refine pr_mem (p0 + 17) _ 1 0 (hT _ (List.mem_of_getElem? (i := 9) rfl)) (by decide) (pm_ast ha rfl (by show pIx (nI i) es.length = some i; rw [hes]; exact pIx_nI hlt hn)) ?_
    refine pr_loc (p0 + 18) _ 3 0 (hT _ (List.mem_of_getElem? (i := 10) rfl)) (by decide) (lv' := [(5, .int (nI (i + 1))), (0, .ref f), (1, v1), (2, v2), (3, v3), (4, v4)]) (st' := []) ?_ ?_
    · rw [hM, nI_succ]
      simp [pLoc, pGet, pPut1, h4]
    refine pr_jmp (p0 + 21) _ 3 0 (hT _ (List.mem_of_getElem? (i := 11) rfl)) (by decide) (t := p0) (st' := []) ?_ ?_
    · simp only [pJmp, if_true, pTo]
      rw [if_pos (by omega)]
      simp only [Option.map_some, Option.some.injEq, Prod.mk.injEq, and_true]
      omega
    have hal := (List.getElem?_eq_some_iff.mp ha).1
    refine ih (i + 1) (es.set i (.int (-1))) (L.set a (20, es.set i (.int (-1)))) (by omega) (by rw [List.length_set]; exact hes) (fun k hk => ?_) (List.getElem?_set_self hal) (by rw [List.getElem?_set_ne (Ne.symm hfa)]; exact hf) ?_
    · by_cases hki : k = i
      · subst hki
        rw [List.getElem?_set_self (by omega)]
      · rw [List.getElem?_set_ne (Ne.symm hki)]
        exact hall k (by omega)
    · rw [List.set_set]
      exact k
theorem of_road (d : Nat) {f r a b : Nat} {n v x4 x5 x6 x7 : Value} {w c t : Int32} {la lb : List Value} {L : pHp} (hf : L[f]? = some (3, [.ref a, .ref b, n, v, x4, x5, x6, x7])) (ha : L[a]? = some (20, la)) (hb : L[b]? = some (20, lb)) (hab : a ≠ b) (hw : w = 0 ∨ w = 1) (hc : c = 0 ∨ c = 1) (hla : la.length < 2 ^ 31) (hlb : lb.length < 2 ^ 31) :
    pEx (d + 1) 22 [.ref f, .ref r, .int w, .int c, .int t] L none (((L.set f (3, [.ref a, .ref b, n, v, .ref r, .int w, .int c, .int t])).set a (20, List.replicate la.length (.int (-1)))).set b (20, List.replicate lb.length (.int (-1)))) := by
  have hfa : f ≠ a := by
    intro h
    subst h
    rw [hf] at ha
    cases ha
  have hfb : f ≠ b := by
    intro h
    subst h
    rw [hf] at hb
    cases hb
  have hfl := (List.getElem?_eq_some_iff.mp hf).1
  have hal := (List.getElem?_eq_some_iff.mp ha).1
  refine ⟨by show 5 ≤ 6; decide, ?_⟩
  show pRun (pEx d) (pMt 22) pT_22 0 [(0, .ref f), (1, .ref r), (2, .int w), (3, .int c), (4, .int t)] [] L none _
  have s1 : ∀ q : pOb, (L.set f q)[f]? = some q := fun q => List.getElem?_set_self hfl
  refine pr_loc 0 _ 1 0 (List.mem_of_getElem? (i := 0) rfl) (by decide) (st' := [.ref f]) rfl ?_
  refine pr_loc 1 _ 1 0 (List.mem_of_getElem? (i := 1) rfl) (by decide) (st' := [.ref r, .ref f]) rfl ?_
  refine pr_mem 2 _ 3 304 (List.mem_of_getElem? (i := 2) rfl) (by decide) (st' := []) (L' := L.set f (3, [.ref a, .ref b, n, v, .ref r, x5, x6, x7])) (pm_put hf ⟨rfl, by show 3 < 13; decide, by show 4 < 8; decide, by simp [pFit, pTy, tyX3, pT, TX3, pN, pNoF, fits, narrow]⟩) ?_
  refine pr_loc 5 _ 1 0 (List.mem_of_getElem? (i := 3) rfl) (by decide) (st' := [.ref f]) rfl ?_
  refine pr_loc 6 _ 1 0 (List.mem_of_getElem? (i := 4) rfl) (by decide) (st' := [.int w, .ref f]) rfl ?_
  refine pr_mem 7 _ 3 305 (List.mem_of_getElem? (i := 5) rfl) (by decide) (st' := []) (L' := (L.set f (3, [.ref a, .ref b, n, v, .ref r, x5, x6, x7])).set f (3, [.ref a, .ref b, n, v, .ref r, .int w, x6, x7])) (pm_put (s1 _) ⟨rfl, by show 3 < 13; decide, by show 5 < 8; decide, by rcases hw with rfl | rfl <;> rfl⟩) ?_
  rw [List.set_set]
  refine pr_loc 10 _ 1 0 (List.mem_of_getElem? (i := 6) rfl) (by decide) (st' := [.ref f]) rfl ?_
  refine pr_loc 11 _ 1 0 (List.mem_of_getElem? (i := 7) rfl) (by decide) (st' := [.int c, .ref f]) rfl ?_
  refine pr_mem 12 _ 3 306 (List.mem_of_getElem? (i := 8) rfl) (by decide) (st' := []) (L' := (L.set f (3, [.ref a, .ref b, n, v, .ref r, .int w, x6, x7])).set f (3, [.ref a, .ref b, n, v, .ref r, .int w, .int c, x7])) (pm_put (s1 _) ⟨rfl, by show 3 < 13; decide, by show 6 < 8; decide, by rcases hc with rfl | rfl <;> rfl⟩) ?_
  rw [List.set_set]
  refine pr_loc 15 _ 1 0 (List.mem_of_getElem? (i := 9) rfl) (by decide) (st' := [.ref f]) rfl ?_
  refine pr_loc 16 _ 2 0 (List.mem_of_getElem? (i := 10) rfl) (by decide) (st' := [.int t, .ref f]) rfl ?_
  refine pr_mem 18 _ 3 307 (List.mem_of_getElem? (i := 11) rfl) (by decide) (st' := []) (L' := (L.set f (3, [.ref a, .ref b, n, v, .ref r, .int w, .int c, x7])).set f (3, [.ref a, .ref b, n, v, .ref r, .int w, .int c, .int t])) (pm_put (s1 _) ⟨rfl, by show 3 < 13; decide, by show 7 < 8; decide, by simp [pFit, pTy, tyX3, pT, TX3, pN, pNoF, fits, narrow]⟩) ?_
  rw [List.set_set]
  refine pr_stk 21 _ 1 0 (List.mem_of_getElem? (i := 12) rfl) (by decide) (st' := [.int (nI 0)]) rfl ?_
  refine pr_loc 22 _ 2 0 (List.mem_of_getElem? (i := 13) rfl) (by decide) (lv' := [(5, .int (nI 0)), (0, .ref f), (1, .ref r), (2, .int w), (3, .int c), (4, .int t)]) (st' := []) rfl ?_
  have ha1 : (L.set f (3, [.ref a, .ref b, n, v, .ref r, .int w, .int c, .int t]))[a]? = some (20, la) := by rw [List.getElem?_set_ne hfa]; exact ha
  refine fl_loop (M := pMt 22) rfl 24 9 300 (by decide) (fun e he => ?_) (f := f) (a := a) (q := (3, [.ref a, .ref b, n, v, .ref r, .int w, .int c, .int t])) ⟨rfl, by show 3 < 13; decide, by show 0 < 8; decide⟩ rfl hfa rfl la.length hla la.length 0 la _ (by omega) rfl (fun k hk => absurd hk (Nat.not_lt_zero k)) ha1 (s1 _) ?_
  · have he2 : e ∈ (pT_22.drop 14).take 12 := he
    exact List.mem_of_mem_drop (List.mem_of_mem_take he2)
  refine pr_stk 48 _ 1 0 (List.mem_of_getElem? (i := 26) rfl) (by decide) (st' := [.int (nI 0)]) rfl ?_
  refine pr_loc 49 _ 2 0 (List.mem_of_getElem? (i := 27) rfl) (by decide) (lv' := [(5, .int (nI 0)), (0, .ref f), (1, .ref r), (2, .int w), (3, .int c), (4, .int t)]) (st' := []) rfl ?_
  have hb1 : ((L.set f (3, [.ref a, .ref b, n, v, .ref r, .int w, .int c, .int t])).set a (20, List.replicate la.length (.int (-1))))[b]? = some (20, lb) := by rw [List.getElem?_set_ne hab, List.getElem?_set_ne hfb]; exact hb
  refine fl_loop (M := pMt 22) rfl 51 15 301 (by decide) (fun e he => ?_) (f := f) (a := b) (q := (3, [.ref a, .ref b, n, v, .ref r, .int w, .int c, .int t])) ⟨rfl, by show 3 < 13; decide, by show 1 < 8; decide⟩ rfl hfb rfl lb.length hlb lb.length 0 lb _ (by omega) rfl (fun k hk => absurd hk (Nat.not_lt_zero k)) hb1 (by rw [List.getElem?_set_ne (Ne.symm hfa)]; exact s1 _) ?_
  · have he2 : e ∈ (pT_22.drop 28).take 12 := he
    exact List.mem_of_mem_drop (List.mem_of_mem_take he2)
  exact pr_end 75 _ 1 0 (List.mem_of_getElem? (i := 40) rfl) (by decide) rfl
/-- the end of ofRoad, known ahead -/
def oSm : aSm := fun K as L => if K = 22 then (match as with
  | [.ref f, .ref r, .int w, .int c, .int t] => match L[f]? with
    | some q => match q.2 with
      | [.ref a, .ref b, n, v, _, _, _, _] => match L[a]? with
        | some qa => match L[b]? with
          | some qb => if q.1 = 3 ∧ qa.1 = 20 ∧ qb.1 = 20 ∧ a ≠ b ∧ (w = 0 ∨ w = 1) ∧ (c = 0 ∨ c = 1) ∧ qa.2.length < 2147483648 ∧ qb.2.length < 2147483648 then some (none, ((L.set f (3, [.ref a, .ref b, n, v, .ref r, .int w, .int c, .int t])).set a (20, List.replicate qa.2.length (.int (-1)))).set b (20, List.replicate qb.2.length (.int (-1)))) else none
          | none => none
        | none => none
      | _ => none
    | none => none
  | _ => none) else none
theorem prep1_nof (n : Nat) : (List.replicate n (Value.int (-1))).all pNoF = true := by
  rw [List.all_eq_true]
  intro v hv
  rw [(List.mem_replicate.mp hv).2]
  rfl
theorem oSm_ok {ρ : Nat → Int32} : ∀ (d K : Nat) (as : List Value) (L : pHp) (r : Option Value × pHp), oSm K as L = some r → ∀ (cas : List Value) (cL : pHp), vL ρ as cas → vH ρ L cL → ∃ (crv : Option Value) (cL' : pHp), pEx (d + 1) K cas cL crv cL' ∧ vO ρ r.1 crv ∧ vH ρ r.2 cL' := by
  intro d K as L r h cas cL hv hH
  unfold oSm at h
  split at h
  · rename_i hK
    subst hK
    split at h
    · split at h
      · rename_i q hq
        split at h
        · rename_i a b n v _ _ _ _ hq2
          split at h
          · rename_i qa hqa
            split at h
            · rename_i qb hqb
              split at h
              · rename_i hc
                cases h
                obtain ⟨c1, c2, c3, c4, c5, c6, c7, c8⟩ := hc
                obtain ⟨_, _, rfl, rfl, _, _, rfl, rfl, _, _, rfl, rfl, _, _, rfl, rfl, _, _, rfl, rfl, hnil⟩ := hv
                have hnil : _ = [] := hnil
                subst hnil
                obtain ⟨es, g1, g2⟩ := vH_get hH hq
                obtain ⟨ea, g3, g4⟩ := vH_get hH hqa
                obtain ⟨eb, g5, g6⟩ := vH_get hH hqb
                rw [hq2] at g2
                obtain ⟨_, _, rfl, rfl, _, _, rfl, rfl, n', _, rfl, hn, v', _, rfl, hv', _, _, rfl, _, _, _, rfl, _, _, _, rfl, _, _, _, rfl, _, hnil⟩ := g2
                have hnil : _ = [] := hnil
                subst hnil
                rw [c1] at g1
                rw [c2] at g3
                rw [c3] at g5
                refine ⟨none, _, of_road d g1 g3 g5 c4 c5 c6 (by rw [vL_len g4]; exact c7) (by rw [vL_len g6]; exact c8), rfl, ?_⟩
                rw [vL_len g4, vL_len g6]
                exact vH_set (vH_set (vH_set hH ⟨_, _, rfl, rfl, _, _, rfl, rfl, _, _, rfl, hn, _, _, rfl, hv', _, _, rfl, rfl, _, _, rfl, rfl, _, _, rfl, rfl, _, _, rfl, rfl, rfl⟩) (vL_self (prep1_nof _))) (vL_self (prep1_nof _))
              · cases h
            · cases h
          · cases h
        · cases h
      · cases h
    · cases h
  · cases h
