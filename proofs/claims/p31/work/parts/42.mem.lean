/-! THE HEAP, AS FORMS: fields. A result: length, stack, new facts, what is known of the memory, the next new name, hints. -/
abbrev qMr : Type := Nat × List qV × List qF × qMm × Nat × qHs
noncomputable def qFind (mm : qMm) (o k : Nat) : Option qF := List.rec (motive := fun _ => Option qF) none (fun q _ ih => cond (Nat.beq q.2.1 k) (cond (Nat.beq q.1 o) (some q.2.2) ih) ih) mm
theorem qfind_ok {ρ : Nat → Int} {M : sM} {o k : Nat} {f : qF} : ∀ {mm : qMm}, (∀ q ∈ mm, M q.1 (zIx ρ q.2.1) = qD ρ q.2.2) → qFind mm o k = some f → M o (zIx ρ k) = qD ρ f
  | [], _, h => nomatch h
  | q :: l, hm, h => by
    have h : cond (Nat.beq q.2.1 k) (cond (Nat.beq q.1 o) (some q.2.2) (qFind l o k)) (qFind l o k) = some f := h
    cases h1 : Nat.beq q.2.1 k with
    | false =>
      rw [h1, cond_false] at h
      exact qfind_ok (fun p hp => hm p (List.mem_cons_of_mem _ hp)) h
    | true =>
      rw [h1, cond_true] at h
      cases h2 : Nat.beq q.1 o with
      | false =>
        rw [h2, cond_false] at h
        exact qfind_ok (fun p hp => hm p (List.mem_cons_of_mem _ hp)) h
      | true =>
        rw [h2, cond_true] at h
        cases h
        rw [← Nat.eq_of_beq_eq_true h1, ← Nat.eq_of_beq_eq_true h2]
        exact hm q List.mem_cons_self
/-- what lies at a place is this form -/
noncomputable def qFe (mm : qMm) (o k : Nat) (f : qF) : Bool := match qFind mm o k with
  | some g => qEq g f
  | none => false
theorem qfe_ok {mm : qMm} {o k : Nat} {f : qF} (h : qFe mm o k f = true) : qFind mm o k = some f := by
  unfold qFe at h
  split at h
  · rename_i g hg
    rw [hg, qeq_t h]
  · cases h
noncomputable def qRf (r : Option (Int × Int)) (n : Nat) : List qF := match r with
  | some (lo, hi) => [qSub [(1, n)] (qCn lo), qSub (qCn hi) [(1, n)]]
  | none => []
theorem qrf_ok {ρ : Nat → Int} (h0 : ρ 0 = 1) {r : Option (Int × Int)} {n : Nat} {z : Int} (hn : ρ n = z) (hz : ∀ q, r = some q → q.1 ≤ z ∧ z ≤ q.2) : ∀ f ∈ qRf r n, 0 ≤ qD ρ f := by
  intro f hf
  cases r with
  | none => cases hf
  | some q =>
    obtain ⟨lo, hi⟩ := q
    have h := hz _ rfl
    rcases List.mem_cons.mp hf with rfl | hf
    · rw [qd_sub, qd_cn h0, qd_at, hn]; omega
    · rcases List.mem_cons.mp hf with rfl | hf
      · rw [qd_sub, qd_cn h0, qd_at, hn]; omega
      · cases hf
section ZM
variable {lay : List sCl} {M : sM} {J : pHp} {c : Nat} {ini : Bool} {a ix o : Nat} {c1 : sCl} {rest : List Value} {p : Nat × Nat}
theorem zm_get (hl : lay[o]? = some c1) (hc : c1.1 = a / 100 ∧ c1.1 < 13 ∧ a % 100 < pN c1.1) (hq : c1.2[a % 100]? = some p) : pMem false c ini (.getfield ix) a (Value.ref o :: rest) (sHp lay M ++ J) = some (3, sE (sC p (M o (a % 100))) :: rest, sHp lay M ++ J) := by
  show (match (sHp lay M ++ J)[o]? with
    | some q => if q.1 = a / 100 ∧ q.1 < 13 ∧ a % 100 < pN q.1 then (q.2[a % 100]?).map (fun v => (3, v :: rest, sHp lay M ++ J)) else none
    | none => none) = _
  rw [shj_at hl]
  show (if c1.1 = a / 100 ∧ c1.1 < 13 ∧ a % 100 < pN c1.1 then ((sCell M o c1).2[a % 100]?).map (fun v => (3, v :: rest, sHp lay M ++ J)) else none) = _
  rw [if_pos hc, scell_at hq]
  rfl
theorem zm_put {v : Int} (hl : lay[o]? = some c1) (hc : c1.1 = a / 100 ∧ c1.1 < 13) (hq : c1.2[a % 100]? = some p) (hf : pFit false c ini c1.1 (a % 100) (sE (sC p v)) = true) : pMem false c ini (.putfield ix) a (sE (sC p v) :: Value.ref o :: rest) (sHp lay M ++ J) = some (3, rest, sHp lay (sU M o (a % 100) v) ++ J) := by
  show (match (sHp lay M ++ J)[o]? with
    | some q' => if q'.1 = a / 100 ∧ q'.1 < 13 ∧ a % 100 < q'.2.length ∧ pFit false c ini q'.1 (a % 100) (sE (sC p v)) = true then some (3, rest, (sHp lay M ++ J).set o (q'.1, q'.2.set (a % 100) (sE (sC p v)))) else none
    | none => none) = _
  rw [shj_at hl]
  have hlen : a % 100 < (sCell M o c1).2.length := by rw [scell_len]; exact (List.getElem?_eq_some_iff.mp hq).1
  show (if c1.1 = a / 100 ∧ c1.1 < 13 ∧ a % 100 < (sCell M o c1).2.length ∧ pFit false c ini c1.1 (a % 100) (sE (sC p v)) = true then some (3, rest, (sHp lay M ++ J).set o ((sCell M o c1).1, (sCell M o c1).2.set (a % 100) (sE (sC p v)))) else none) = _
  rw [if_pos ⟨hc.1, hc.2, hlen, hf⟩, shj_set hl hq]
theorem zm_pld {t m kd : Nat} {x : Int} (h0 : 0 ≤ x) (h1 : x < m) (hn : m ≤ 4096) : pLd (sCell M o (t, List.replicate m (kd, 0))).2 (Int32.ofInt x) = some (sE (sC (kd, 0) (M o x.toNat))) := by
  unfold pLd
  rw [scell_len, List.length_replicate, six_of h0 h1 hn]
  exact scell_at (by rw [List.getElem?_replicate, if_pos (by omega)])
theorem zm_ld {i : Instr} {t m kd : Nat} {x : Int} (hi : (i = .iaload ∧ t = 20) ∨ (i = .baload ∧ (t = 21 ∨ t = 22)) ∨ (i = .laload ∧ t = 23)) (hl : lay[o]? = some (t, List.replicate m (kd, 0))) (h0 : 0 ≤ x) (h1 : x < m) (hn : m ≤ 4096) : pMem false c ini i a (Value.int (Int32.ofInt x) :: Value.ref o :: rest) (sHp lay M ++ J) = some (1, sE (sC (kd, 0) (M o x.toNat)) :: rest, sHp lay M ++ J) := by
  have hp := zm_pld (M := M) (o := o) (t := t) (kd := kd) h0 h1 hn
  rcases hi with ⟨rfl, ht⟩ | ⟨rfl, ht⟩ | ⟨rfl, ht⟩
  · show (match (sHp lay M ++ J)[o]? with
      | some q => if q.1 = 20 then (pLd q.2 (Int32.ofInt x)).map (fun v => (1, v :: rest, sHp lay M ++ J)) else none
      | none => none) = _
    rw [shj_at hl]
    show (if t = 20 then (pLd (sCell M o (t, List.replicate m (kd, 0))).2 (Int32.ofInt x)).map (fun v => (1, v :: rest, sHp lay M ++ J)) else none) = _
    rw [if_pos ht, hp]
    rfl
  · show (match (sHp lay M ++ J)[o]? with
      | some q => if q.1 = 21 ∨ q.1 = 22 then (pLd q.2 (Int32.ofInt x)).map (fun v => (1, v :: rest, sHp lay M ++ J)) else none
      | none => none) = _
    rw [shj_at hl]
    show (if t = 21 ∨ t = 22 then (pLd (sCell M o (t, List.replicate m (kd, 0))).2 (Int32.ofInt x)).map (fun v => (1, v :: rest, sHp lay M ++ J)) else none) = _
    rw [if_pos ht, hp]
    rfl
  · show (match (sHp lay M ++ J)[o]? with
      | some q => if q.1 = 23 then (pLd q.2 (Int32.ofInt x)).map (fun v => (1, v :: rest, sHp lay M ++ J)) else none
      | none => none) = _
    rw [shj_at hl]
    show (if t = 23 then (pLd (sCell M o (t, List.replicate m (kd, 0))).2 (Int32.ofInt x)).map (fun v => (1, v :: rest, sHp lay M ++ J)) else none) = _
    rw [if_pos ht, hp]
    rfl
/-- an array is written: what is stored, as a number -/
theorem zm_st {i : Instr} {t m kd : Nat} {x v : Int} {w : Value} (hi : (i = .iastore ∧ t = 20 ∧ ∃ u, w = .int u ∧ sE (sC (kd, 0) v) = w) ∨ (i = .bastore ∧ (t = 21 ∨ t = 22) ∧ ∃ u, w = .int u ∧ sE (sC (kd, 0) v) = narrow (pAty t) w) ∨ (i = .lastore ∧ t = 23 ∧ ∃ u, w = .long u ∧ sE (sC (kd, 0) v) = w)) (hl : lay[o]? = some (t, List.replicate m (kd, 0))) (h0 : 0 ≤ x) (h1 : x < m) (hn : m ≤ 4096) : pMem false c ini i a (w :: Value.int (Int32.ofInt x) :: Value.ref o :: rest) (sHp lay M ++ J) = some (1, rest, sHp lay (sU M o x.toNat v) ++ J) := by
  have hx : pIx (Int32.ofInt x) (sCell M o (t, List.replicate m (kd, 0))).2.length = some x.toNat := by
    rw [scell_len, List.length_replicate, six_of h0 h1 hn]
  have h9 := shj_set (lay := lay) (M := M) (J := J) (k := x.toNat) (q := (kd, 0)) (v := v) hl (by rw [List.getElem?_replicate, if_pos (by omega)])
  rcases hi with ⟨rfl, ht, u, rfl, hv⟩ | ⟨rfl, ht, u, rfl, hv⟩ | ⟨rfl, ht, u, rfl, hv⟩
  · show (match (sHp lay M ++ J)[o]? with
      | some q => if q.1 = 20 ∧ pInt false (.int u) = true then (pIx (Int32.ofInt x) q.2.length).map (fun j => (1, rest, (sHp lay M ++ J).set o (q.1, q.2.set j (.int u)))) else none
      | none => none) = _
    rw [shj_at hl]
    show (if t = 20 ∧ pInt false (.int u) = true then (pIx (Int32.ofInt x) (sCell M o (t, List.replicate m (kd, 0))).2.length).map (fun j => (1, rest, (sHp lay M ++ J).set o ((sCell M o (t, List.replicate m (kd, 0))).1, (sCell M o (t, List.replicate m (kd, 0))).2.set j (.int u)))) else none) = _
    rw [if_pos ⟨ht, rfl⟩, hx, ← h9, hv]
    rfl
  · show (match (sHp lay M ++ J)[o]? with
      | some q => if (q.1 = 21 ∨ q.1 = 22) ∧ pInt false (.int u) = true then (pIx (Int32.ofInt x) q.2.length).map (fun j => (1, rest, (sHp lay M ++ J).set o (q.1, q.2.set j (narrow (pAty q.1) (.int u))))) else none
      | none => none) = _
    rw [shj_at hl]
    show (if (t = 21 ∨ t = 22) ∧ pInt false (.int u) = true then (pIx (Int32.ofInt x) (sCell M o (t, List.replicate m (kd, 0))).2.length).map (fun j => (1, rest, (sHp lay M ++ J).set o ((sCell M o (t, List.replicate m (kd, 0))).1, (sCell M o (t, List.replicate m (kd, 0))).2.set j (narrow (pAty t) (.int u))))) else none) = _
    rw [if_pos ⟨ht, rfl⟩, hx, ← h9, hv]
    rfl
  · show (match (sHp lay M ++ J)[o]? with
      | some q => if q.1 = 23 then (pIx (Int32.ofInt x) q.2.length).map (fun j => (1, rest, (sHp lay M ++ J).set o (q.1, q.2.set j (.long u)))) else none
      | none => none) = _
    rw [shj_at hl]
    show (if t = 23 then (pIx (Int32.ofInt x) (sCell M o (t, List.replicate m (kd, 0))).2.length).map (fun j => (1, rest, (sHp lay M ++ J).set o ((sCell M o (t, List.replicate m (kd, 0))).1, (sCell M o (t, List.replicate m (kd, 0))).2.set j (.long u)))) else none) = _
    rw [if_pos ht, hx, ← h9, hv]
    rfl
theorem zm_ald {t b m : Nat} {x : Int} (ht : t = 24 ∨ t = 25) (hl : lay[o]? = some (t, (List.range m).map (fun j => (2, b + j)))) (h0 : 0 ≤ x) (h1 : x < m) (hn : m ≤ 4096) : pMem false c ini .aaload a (Value.int (Int32.ofInt x) :: Value.ref o :: rest) (sHp lay M ++ J) = some (1, Value.ref (b + x.toNat) :: rest, sHp lay M ++ J) := by
  show (match (sHp lay M ++ J)[o]? with
    | some q => if q.1 = 24 ∨ q.1 = 25 then (pLd q.2 (Int32.ofInt x)).map (fun v => (1, v :: rest, sHp lay M ++ J)) else none
    | none => none) = _
  rw [shj_at hl]
  show (if t = 24 ∨ t = 25 then (pLd (sCell M o (t, (List.range m).map (fun j => (2, b + j)))).2 (Int32.ofInt x)).map (fun v => (1, v :: rest, sHp lay M ++ J)) else none) = _
  rw [if_pos ht]
  unfold pLd
  rw [scell_len, List.length_map, List.length_range, six_of h0 h1 hn]
  show Option.map _ ((sCell M o (t, (List.range m).map (fun j => (2, b + j)))).2[x.toNat]?) = _
  rw [scell_at (q := (2, b + x.toNat)) (by
    rw [List.getElem?_map, List.getElem?_range (by omega)]
    rfl)]
  rfl
end ZM
/-- is a number within a range -/
noncomputable def qRk (fs : List qF) (r : Option (Int × Int)) (v : qF) (hs : qHs) : Option qHs := match r with
  | none => some hs
  | some (lo, hi) => match hs with
    | a :: b :: t => cond (qEnt fs (qSub v (qCn lo)) a && qEnt fs (qSub (qCn hi) v) b) (some t) none
    | _ => none
theorem qrk_ok {ρ : Nat → Int} (h0 : ρ 0 = 1) {fs : List qF} (hf : ∀ f ∈ fs, 0 ≤ qD ρ f) {r : Option (Int × Int)} {v : qF} {hs t : qHs} (h : qRk fs r v hs = some t) : ∀ q, r = some q → q.1 ≤ qD ρ v ∧ qD ρ v ≤ q.2 := by
  intro q hq
  subst hq
  obtain ⟨lo, hi⟩ := q
  unfold qRk at h
  split at h
  · cases ‹_ = none›
  · rename_i lo' hi' he
    cases he
    split at h
    · obtain ⟨h1, -⟩ := zcond h
      rw [Bool.and_eq_true] at h1
      have h2 := qd_ent h0 hf h1.1
      have h3 := qd_ent h0 hf h1.2
      rw [qd_sub, qd_cn h0] at h2 h3
      exact ⟨by omega, by omega⟩
    · cases h
/-- a cell's number, if it is known -/
noncomputable def qRef (x : qF) : Option Nat := match qKo x with | some c => cond (zNg c) none (some c.toNat) | none => none
theorem qref_ok {ρ : Nat → Int} (h0 : ρ 0 = 1) {x : qF} {o : Nat} (h : qRef x = some o) : qD ρ x = (o : Int) := by
  unfold qRef at h
  split at h
  · rename_i c hc
    cases hn : zNg c with
    | true => rw [hn] at h; cases h
    | false =>
      rw [hn] at h
      cases h
      have := zng_f hn
      rw [qd_ko h0 hc]
      omega
  · cases h
noncomputable def qGf (a : Nat) (st : List qV) (fs : List qF) (mm : qMm) (n : Nat) (hs : qHs) : Option qMr := match st with
  | (2, x) :: r => (match qRef x with
    | some o => (match sLay[o]? with
      | some c => cond (Nat.beq c.1 (a / 100) && (Nat.blt c.1 13 && Nat.blt (a % 100) (pN c.1))) (match c.2[a % 100]? with
        | some (2, q) => some (3, (2, qCn (q : Int)) :: r, [], mm, n, hs)
        | some (3, _) => (match qFind mm o (a % 100) with | some f => some (3, (2, f) :: r, [], mm, n, hs) | none => none)
        | some (t, _) => cond (Nat.blt t 2) (match qFind mm o (a % 100) with
          | some f => some (3, (t, f) :: r, [], mm, n, hs)
          | none => some (3, (t, [(1, n)]) :: r, qRf (sRg o (a % 100)) n, (o, a % 100, [(1, n)]) :: mm, n + 1, hs)) none
        | none => none) none
      | none => none)
    | none => (match hs with
      | [(j, 0)] :: u :: v :: t => (match sFm[j.toNat]? with
        | some (b, m, c, w) => cond (qEnt fs (qSub x (qCn (b : Int))) u && (qEnt fs (qSub (qCn ((b : Int) + m - 1)) x) v && (Nat.beq c (a / 100) && (Nat.blt c 13 && (Nat.blt (a % 100) (pN c) && Nat.blt (a % 100) w))))) (some (3, (0, [(1, n)]) :: r, qRf (sRg b (a % 100)) n, mm, n + 1, t)) none
        | none => none)
      | _ => none))
  | _ => none
theorem sfm_at {b m c w : Nat} (h : (b, m, c, w) ∈ sFm) {o : Nat} (h1 : b ≤ o) (h2 : o < b + m) : sLay[o]? = some (c, List.replicate w (0, 0)) ∧ ∀ k, k < w → sRg o k = sRg b k := by
  have := List.all_eq_true.mp (List.all_eq_true.mp sfm_ok _ h) (o - b) (List.mem_range.mpr (by show o - b < m; omega))
  rw [Bool.and_eq_true] at this
  have e : b + (o - b) = o := by omega
  have h3 : sLay[b + (o - b)]? = some (c, List.replicate w (0, 0)) := of_decide_eq_true this.1
  rw [e] at h3
  refine ⟨h3, fun k hk => ?_⟩
  have h4 := List.all_eq_true.mp this.2 k (List.mem_range.mpr hk)
  have h5 : sRg (b + (o - b)) k = sRg b k := of_decide_eq_true h4
  rw [e] at h5
  exact h5
section MEM
variable {d K : Nat} {J : pHp} {M0 : sM} {S : sSt}
/-- one instruction of the heap does what its result says -/
noncomputable def qMok (c : Nat) (ini : Bool) (i : Instr) (a : Nat) (J : pHp) (M0 : sM) (S : sSt) (st : List qV) (fs : List qF) (mm : qMm) (n : Nat) (q : qMr) : Prop :=
  ∀ (ρ : Nat → Int) (M : sM), 0 < n → ρ 0 = 1 → st.all (fun v => qSc n v.2) = true → (∀ q ∈ mm, (qSk n q.2.1 && qSc n q.2.2) = true) → (∀ f ∈ fs, 0 ≤ qD ρ f) → (∀ q ∈ mm, M q.1 (zIx ρ q.2.1) = qD ρ q.2.2) → sI M → sF S M0 M →
    ∃ (ρ1 : Nat → Int) (M' : sM), pMem false c ini i a ((qDS ρ st).map sE) (sHp sLay M ++ J) = some (q.1, (qDS (qUp ρ ρ1 n) q.2.1).map sE, sHp sLay M' ++ J) ∧ (∀ f ∈ q.2.2.1, 0 ≤ qD (qUp ρ ρ1 n) f) ∧ (∀ p ∈ q.2.2.2.1, M' p.1 (zIx (qUp ρ ρ1 n) p.2.1) = qD (qUp ρ ρ1 n) p.2.2) ∧ sI M' ∧ sF S M0 M'
theorem qup_self (ρ : Nat → Int) (n : Nat) : qUp ρ ρ n = ρ := by
  funext a
  unfold qUp
  cases Nat.blt a n <;> rfl
theorem qgf_ok {c : Nat} {ini : Bool} {ix a n : Nat} {st : List qV} {fs : List qF} {mm : qMm} {hs : qHs} {q : qMr} (h : qGf a st fs mm n hs = some q) : qMok c ini (.getfield ix) a J M0 S st fs mm n q := by
  intro ρ M hn h0 hsc hsm hf hm hI hF
  have hZ : ∀ ρ : Nat → Int, zIx ρ (a % 100) = a % 100 := fun ρ => zix_lt (by omega)
  have hFi : ∀ {o : Nat} {f : qF}, qFind mm o (a % 100) = some f → M o (a % 100) = qD ρ f := fun h => by
    have := qfind_ok hm h
    rw [hZ] at this
    exact this
  have hK : ∀ {ρ' : Nat → Int}, (∀ e, e < n → ρ' e = ρ e) → ∀ p ∈ mm, M p.1 (zIx ρ' p.2.1) = qD ρ' p.2.2 := fun hr p hp => by
    have h6 := hsm p hp
    rw [Bool.and_eq_true] at h6
    rw [qd_sc hr h6.2, zix_sc hr h6.1]
    exact hm p hp
  have hP : ∀ {o : Nat} {c1 : sCl} {r : List qV} {p : Nat × Nat}, sLay[o]? = some c1 → (Nat.beq c1.1 (a / 100) && (Nat.blt c1.1 13 && Nat.blt (a % 100) (pN c1.1))) = true → c1.2[a % 100]? = some p → pMem false c ini (.getfield ix) a (Value.ref o :: (qDS ρ r).map sE) (sHp sLay M ++ J) = some (3, sE (sC p (M o (a % 100))) :: (qDS ρ r).map sE, sHp sLay M ++ J) := fun hl hc hq => by
    rw [Bool.and_eq_true, Bool.and_eq_true] at hc
    exact zm_get hl ⟨Nat.eq_of_beq_eq_true hc.1, zblt hc.2.1, zblt hc.2.2⟩ hq
  unfold qGf at h
  split at h
  · rename_i x r
    rw [List.all_cons, Bool.and_eq_true] at hsc
    split at h
    · rename_i o ho
      have hx := qref_ok h0 ho
      have hS : (qDS ρ ((2, x) :: r)).map sE = Value.ref o :: (qDS ρ r).map sE := by
        show Value.ref (qD ρ x).toNat :: _ = _
        rw [hx]; rfl
      rw [hS]
      split at h
      · rename_i c1 hl
        cases hc : (Nat.beq c1.1 (a / 100) && (Nat.blt c1.1 13 && Nat.blt (a % 100) (pN c1.1))) with
        | false => rw [hc] at h; cases h
        | true =>
          rw [hc, cond_true] at h
          split at h
          · rename_i p hq
            cases h
            refine ⟨ρ, M, ?_, fun _ hf => (nomatch hf), ?_, hI, hF⟩
            · rw [hP hl hc hq, qup_self]
              show some (3, Value.ref p :: _, _) = some (3, Value.ref (qD ρ (qCn (p : Int))).toNat :: _, _)
              rw [qd_cn h0]
              rfl
            · rw [qup_self]; exact hm
          · rename_i p hq
            split at h
            · rename_i f hfi
              cases h
              refine ⟨ρ, M, ?_, fun _ hf => (nomatch hf), ?_, hI, hF⟩
              · rw [hP hl hc hq, qup_self]
                show some (3, sE (2, M o (a % 100)) :: _, _) = some (3, sE (2, qD ρ f) :: _, _)
                rw [hFi hfi]
                rfl
              · rw [qup_self]; exact hm
            · cases h
          · rename_i t p _ _ hq
            cases ht : Nat.blt t 2 with
            | false => rw [ht] at h; cases h
            | true =>
              rw [ht, cond_true] at h
              have ht := zblt ht
              have hC : ∀ z : Int, sC (t, p) z = (t, z) := by
                intro z
                match t, ht with
                | 0, _ => rfl
                | 1, _ => rfl
              split at h
              · rename_i f hfi
                cases h
                refine ⟨ρ, M, ?_, fun _ hf => (nomatch hf), ?_, hI, hF⟩
                · rw [hP hl hc hq, qup_self, hC, hFi hfi]
                  rfl
                · rw [qup_self]; exact hm
              · cases h
                have hr : ∀ b, b < n → qUp ρ (fun _ => M o (a % 100)) n b = ρ b := fun b h => qup_lt h
                have hnn : qUp ρ (fun _ => M o (a % 100)) n n = M o (a % 100) := qup_ge (Nat.le_refl n)
                refine ⟨fun _ => M o (a % 100), M, ?_, ?_, ?_, hI, hF⟩
                · rw [hP hl hc hq, hC]
                  show _ = some (3, sE (t, qD _ [(1, n)]) :: (qDS _ r).map sE, _)
                  rw [qd_at, hnn, qds_sc hr hsc.2, show (1 : Int) * M o (a % 100) = M o (a % 100) by omega]
                · exact qrf_ok (by rw [hr 0 hn]; exact h0) hnn (fun q hq' => hI.1 o (a % 100) q hq')
                · intro p' hp'
                  rcases List.mem_cons.mp hp' with rfl | hp'
                  · show M o (zIx _ (a % 100)) = qD _ [(1, n)]
                    rw [hZ, qd_at, hnn]; omega
                  · exact hK hr p' hp'
          · cases h
      · cases h
    · split at h
      · rename_i j u v t
        split at h
        · rename_i b m c1 w hj
          obtain ⟨h1, h2⟩ := zcond h
          cases h2
          rw [Bool.and_eq_true, Bool.and_eq_true, Bool.and_eq_true, Bool.and_eq_true, Bool.and_eq_true] at h1
          have hb1 := qd_ent h0 hf h1.1
          have hb2 := qd_ent h0 hf h1.2.1
          rw [qd_sub, qd_cn h0] at hb1 hb2
          have hx : ((qD ρ x).toNat : Int) = qD ρ x := Int.toNat_of_nonneg (by omega)
          obtain ⟨hl, hrg⟩ := sfm_at (List.mem_of_getElem? hj) (o := (qD ρ x).toNat) (by omega) (by omega)
          have hw : a % 100 < w := zblt h1.2.2.2.2.2
          have hp := hP (r := r) (p := (0, 0)) hl (by rw [Bool.and_eq_true, Bool.and_eq_true]; exact ⟨h1.2.2.1, h1.2.2.2.1, h1.2.2.2.2.1⟩) (by rw [List.getElem?_replicate, if_pos hw])
          have hr : ∀ e, e < n → qUp ρ (fun _ => M (qD ρ x).toNat (a % 100)) n e = ρ e := fun e h => qup_lt h
          have hnn : qUp ρ (fun _ => M (qD ρ x).toNat (a % 100)) n n = M (qD ρ x).toNat (a % 100) := qup_ge (Nat.le_refl n)
          refine ⟨fun _ => M (qD ρ x).toNat (a % 100), M, ?_, ?_, ?_, hI, hF⟩
          · refine hp.trans ?_
            show some (3, sE (0, M (qD ρ x).toNat (a % 100)) :: _, _) = some (3, sE (0, qD _ [(1, n)]) :: (qDS _ r).map sE, _)
            rw [qd_at, hnn, qds_sc hr hsc.2, show (1 : Int) * M (qD ρ x).toNat (a % 100) = M (qD ρ x).toNat (a % 100) by omega]
          · exact qrf_ok (by rw [hr 0 hn]; exact h0) hnn (fun q hq' => hI.1 _ _ q (by rw [hrg _ hw]; exact hq'))
          · exact hK hr
        · cases h
      · cases h
  · cases h
end MEM
