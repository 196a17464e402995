/-! THE HEAP, AS FORMS: arrays. -/
noncomputable def qRes (m : Nat) : qF → Option Int
  | [] => some 0
  | q :: f => match qRes m f with
    | some r => cond (Nat.beq q.2 0) (some (r + q.1)) (cond (q.1 % (m : Int) == 0) (some r) none)
    | none => none
theorem qres_ok {ρ : Nat → Int} (h0 : ρ 0 = 1) {m : Nat} : ∀ {f : qF} {r : Int}, qRes m f = some r → ∃ c, qD ρ f = r + m * c
  | [], r, h => by cases h; exact ⟨0, by show (0 : Int) = 0 + m * 0; omega⟩
  | q :: f, r, h => by
    unfold qRes at h
    split at h
    · rename_i r' hr'
      obtain ⟨c, hc⟩ := qres_ok h0 hr'
      cases h1 : Nat.beq q.2 0 with
      | true =>
        rw [h1] at h
        cases h
        have e := Nat.eq_of_beq_eq_true h1
        refine ⟨c, ?_⟩
        show q.1 * ρ q.2 + qD ρ f = _
        rw [e, h0, hc]
        omega
      | false =>
        rw [h1, cond_false] at h
        cases h2 : (q.1 % (m : Int) == 0) with
        | false => rw [h2] at h; cases h
        | true =>
          rw [h2] at h
          cases h
          have h3 : q.1 % (m : Int) = 0 := by simpa using h2
          obtain ⟨u, hu⟩ := Int.dvd_of_emod_eq_zero h3
          refine ⟨u * ρ q.2 + c, ?_⟩
          show q.1 * ρ q.2 + qD ρ f = _
          rw [hc, hu, Int.mul_add, Int.mul_assoc]
          omega
    · cases h
/-- the range of a place of an array of m places -/
noncomputable def qRs (o m : Nat) (x : qF) : Option (Int × Int) := match sRl[o]? with
  | some (len, w, l) => cond (Nat.beq len m && Nat.blt 0 w) (match qRes w x with | some r => (l[(r % (w : Int)).toNat]?).getD none | none => none) none
  | none => none
theorem qrs_ok {ρ : Nat → Int} (h0 : ρ 0 = 1) {o m : Nat} {x : qF} {r : Int × Int} (h : qRs o m x = some r) (hx : 0 ≤ qD ρ x) (hm : qD ρ x < m) : sRg o (qD ρ x).toNat = some r := by
  unfold qRs at h
  unfold sRg
  split at h
  · rename_i len w l hl
    rw [hl]
    cases h1 : (Nat.beq len m && Nat.blt 0 w) with
    | false => rw [h1] at h; cases h
    | true =>
      rw [h1, cond_true] at h
      rw [Bool.and_eq_true] at h1
      have e1 := Nat.eq_of_beq_eq_true h1.1
      have e2 : 0 < w := zblt h1.2
      subst e1
      split at h
      · rename_i r' hr
        obtain ⟨c, hc⟩ := qres_ok h0 hr
        have hk : (qD ρ x).toNat < len := by omega
        have hb : Nat.blt (qD ρ x).toNat len = true := Nat.ble_eq_true_of_le hk
        show cond (Nat.blt (qD ρ x).toNat len) ((l[(qD ρ x).toNat % w]?).getD none) none = some r
        rw [hb, cond_true]
        have e3 : (qD ρ x).toNat % w = (r' % (w : Int)).toNat := by
          have h4 : (((qD ρ x).toNat % w : Nat) : Int) = qD ρ x % (w : Int) := by
            rw [Int.natCast_emod, Int.toNat_of_nonneg hx]
          have h5 : qD ρ x % (w : Int) = r' % (w : Int) := by
            rw [hc, Int.add_mul_emod_self_left]
          have h6 : 0 ≤ r' % (w : Int) := Int.emod_nonneg _ (by omega)
          omega
        rw [e3]
        exact h
      · cases h
  · cases h
noncomputable def qArr (o : Nat) : Option (Nat × Nat × Nat) := sAr.find? (fun q => Nat.beq q.1 o)
theorem qarr_ok {o : Nat} {q : Nat × Nat × Nat} (h : qArr o = some q) : sLay[o]? = some (q.2.1, List.replicate q.2.2 (cond (Nat.beq q.2.1 23) 1 0, 0)) ∧ q.2.2 ≤ 4096 := by
  have h1 := List.find?_some h
  have h2 := List.mem_of_find?_eq_some h
  have e := Nat.eq_of_beq_eq_true h1
  have h3 := List.all_eq_true.mp sar_ok q h2
  rw [Bool.and_eq_true, Bool.and_eq_true, Bool.and_eq_true] at h3
  rw [← e]
  exact ⟨of_decide_eq_true h3.1, Nat.le_of_ble_eq_true h3.2.1⟩
theorem sar_s : sAr.all (fun q => Nat.ble q.2.2 700) = true := by decide +kernel
theorem qarr_s {o : Nat} {q : Nat × Nat × Nat} (h : qArr o = some q) : q.2.2 ≤ 700 := Nat.le_of_ble_eq_true (List.all_eq_true.mp sar_s q (List.mem_of_find?_eq_some h))
/-- instruction, kind of array: the kind of what is read -/
noncomputable def zLk (i : Instr) (t : Nat) : Option Nat := match i with
  | .iaload => cond (Nat.beq t 20) (some 0) none
  | .baload => cond (Nat.beq t 21 || Nat.beq t 22) (some 0) none
  | .laload => cond (Nat.beq t 23) (some 1) none
  | _ => none
theorem zlk_ok {i : Instr} {t k : Nat} (h : zLk i t = some k) : ((i = .iaload ∧ t = 20) ∨ (i = .baload ∧ (t = 21 ∨ t = 22)) ∨ (i = .laload ∧ t = 23)) ∧ (cond (Nat.beq t 23) 1 0) = k ∧ (k = 0 ∨ k = 1) := by
  unfold zLk at h
  split at h
  · obtain ⟨h1, h2⟩ := zcond h
    have e := Nat.eq_of_beq_eq_true h1
    subst e; subst h2
    exact ⟨Or.inl ⟨rfl, rfl⟩, rfl, Or.inl rfl⟩
  · obtain ⟨h1, h2⟩ := zcond h
    rw [Bool.or_eq_true] at h1
    subst h2
    rcases h1 with h1 | h1
    · have e := Nat.eq_of_beq_eq_true h1
      subst e
      exact ⟨Or.inr (Or.inl ⟨rfl, Or.inl rfl⟩), rfl, Or.inl rfl⟩
    · have e := Nat.eq_of_beq_eq_true h1
      subst e
      exact ⟨Or.inr (Or.inl ⟨rfl, Or.inr rfl⟩), rfl, Or.inl rfl⟩
  · obtain ⟨h1, h2⟩ := zcond h
    have e := Nat.eq_of_beq_eq_true h1
    subst e; subst h2
    exact ⟨Or.inr (Or.inr ⟨rfl, rfl⟩), rfl, Or.inr rfl⟩
  · cases h
noncomputable def qAl (i : Instr) (st : List qV) (fs : List qF) (mm : qMm) (n : Nat) (hs : qHs) : Option qMr := match st with
  | (0, x) :: (2, y) :: r => (match qRef y with
    | some o => (match qArr o with
      | some q => (match zLk i q.2.1 with
        | some kd => (match hs with
          | a :: b :: hs' => cond (qEnt fs x a && qEnt fs (qSub (qCn ((q.2.2 : Int) - 1)) x) b) (cond (Nat.beq kd 1) (some (1, (1, [(1, n)]) :: r, qInL n, mm, n + 1, hs')) (match qKo x with
            | some c => (match qFind mm o c.toNat with
              | some f => some (1, (kd, f) :: r, [], mm, n, hs')
              | none => some (1, (kd, [(1, n)]) :: r, qRf (sRg o c.toNat) n, (o, c.toNat, [(1, n)]) :: mm, n + 1, hs'))
            | none => (match x with
              | [(1, e)] => (match qFind mm o (1000 + e) with
                | some f => some (1, (kd, f) :: r, [], mm, n, hs')
                | none => some (1, (kd, [(1, n)]) :: r, qRf (qRs o q.2.2 x) n, (o, 1000 + e, [(1, n)]) :: mm, n + 1, hs'))
              | _ => cond (sInC zPl o) (some (1, (kd, [(1, n + 1)]) :: r, qSub x [(1, n)] :: qSub [(1, n)] x :: qRf (qRs o q.2.2 x) (n + 1), (o, 1000 + n, [(1, n + 1)]) :: mm, n + 2, hs')) (some (1, (kd, [(1, n)]) :: r, qRf (qRs o q.2.2 x) n, mm, n + 1, hs'))))) none
          | _ => none)
        | none => none)
      | none => none)
    | none => none)
  | _ => none
section MEM3
variable {J : pHp} {M0 : sM} {S : sSt}
theorem qal_ok {c : Nat} {ini : Bool} {i : Instr} {a n : Nat} {st : List qV} {fs : List qF} {mm : qMm} {hs : qHs} {q : qMr} (h : qAl i st fs mm n hs = some q) : qMok c ini i a J M0 S st fs mm n q := by
  intro ρ M hn h0 hsc hsm hf hm hI hF
  have hK : ∀ {ρ' : Nat → Int}, (∀ e, e < n → ρ' e = ρ e) → ∀ p ∈ mm, M p.1 (zIx ρ' p.2.1) = qD ρ' p.2.2 := fun hr p hp => by
    have h6 := hsm p hp
    rw [Bool.and_eq_true] at h6
    rw [qd_sc hr h6.2, zix_sc hr h6.1]
    exact hm p hp
  unfold qAl at h
  split at h
  · rename_i x y r
    rw [List.all_cons, List.all_cons, Bool.and_eq_true, Bool.and_eq_true] at hsc
    split at h
    · rename_i o ho
      have hy := qref_ok h0 ho
      split at h
      · rename_i p hp
        obtain ⟨hl, hb⟩ := qarr_ok hp
        split at h
        · rename_i kd hk
          obtain ⟨hi, hkd, hkk⟩ := zlk_ok hk
          split at h
          · rename_i u v hs'
            cases h1 : (qEnt fs x u && qEnt fs (qSub (qCn ((p.2.2 : Int) - 1)) x) v) with
            | false => rw [h1] at h; cases h
            | true =>
              rw [h1, cond_true] at h
              rw [Bool.and_eq_true] at h1
              have hx0 := qd_ent h0 hf h1.1
              have hx1 := qd_ent h0 hf h1.2
              rw [qd_sub, qd_cn h0] at hx1
              have hC : ∀ z : Int, sC (kd, 0) z = (kd, z) := by
                intro z
                rcases hkk with rfl | rfl <;> rfl
              rw [hkd] at hl
              have hP : pMem false c ini i a ((qDS ρ ((0, x) :: (2, y) :: r)).map sE) (sHp sLay M ++ J) = some (1, sE (kd, M o (qD ρ x).toNat) :: (qDS ρ r).map sE, sHp sLay M ++ J) := by
                have := zm_ld (M := M) (J := J) (c := c) (ini := ini) (a := a) (rest := (qDS ρ r).map sE) hi hl hx0 (by omega) hb
                rw [hC] at this
                rw [← this]
                show pMem false c ini i a (Value.int (Int32.ofInt (qD ρ x)) :: Value.ref (qD ρ y).toNat :: (qDS ρ r).map sE) _ = _
                rw [hy]
                rfl
              have hr : ∀ e, e < n → qUp ρ (fun _ => M o (qD ρ x).toNat) n e = ρ e := fun e h => qup_lt h
              have hnn : qUp ρ (fun _ => M o (qD ρ x).toNat) n n = M o (qD ρ x).toNat := qup_ge (Nat.le_refl n)
              have hP2 : pMem false c ini i a ((qDS ρ ((0, x) :: (2, y) :: r)).map sE) (sHp sLay M ++ J) = some (1, (qDS (qUp ρ (fun _ => M o (qD ρ x).toNat) n) ((kd, [(1, n)]) :: r)).map sE, sHp sLay M ++ J) := by
                rw [hP]
                show _ = some (1, sE (kd, qD _ [(1, n)]) :: (qDS _ r).map sE, _)
                rw [qd_at, hnn, qds_sc hr hsc.2.2, show (1 : Int) * M o (qD ρ x).toNat = M o (qD ρ x).toNat by omega]
              cases hk1 : Nat.beq kd 1
              case true =>
                rw [hk1, cond_true] at h
                cases h
                have hk2 := Nat.eq_of_beq_eq_true hk1
                have hr3 : ∀ e, e < n → qUp ρ (fun _ => (Int64.ofInt (M o (qD ρ x).toNat)).toInt) n e = ρ e := fun e h => qup_lt h
                have hn3 : qUp ρ (fun _ => (Int64.ofInt (M o (qD ρ x).toNat)).toInt) n n = (Int64.ofInt (M o (qD ρ x).toNat)).toInt := qup_ge (Nat.le_refl n)
                refine ⟨fun _ => (Int64.ofInt (M o (qD ρ x).toNat)).toInt, M, ?_, qinl_ok (by rw [hr3 0 hn]; exact h0) hn3 (i64_rng _), hK hr3, hI, hF⟩
                rw [hP, hk2]
                show some (1, Value.long (Int64.ofInt (M o (qD ρ x).toNat)) :: _, _) = some (1, Value.long (Int64.ofInt (qD _ [(1, n)])) :: (qDS _ r).map sE, _)
                rw [qd_at, hn3, qds_sc hr3 hsc.2.2, show (1 : Int) * (Int64.ofInt (M o (qD ρ x).toNat)).toInt = (Int64.ofInt (M o (qD ρ x).toNat)).toInt by omega, i64_of]
              rw [hk1, cond_false] at h
              split at h
              · rename_i e he
                have hxe := qd_ko h0 he
                have he1 : e.toNat < 1000 := by
                  have := qarr_s hp
                  omega
                split at h
                · rename_i f hfi
                  cases h
                  refine ⟨ρ, M, ?_, fun _ hf => (nomatch hf), ?_, hI, hF⟩
                  · have h7 := qfind_ok hm hfi
                    rw [zix_lt he1] at h7
                    rw [hP, qup_self, hxe, h7]
                    rfl
                  · rw [qup_self]; exact hm
                · cases h
                  refine ⟨_, M, hP2, ?_, ?_, hI, hF⟩
                  · exact qrf_ok (by rw [hr 0 hn]; exact h0) hnn (fun q hq' => hI.1 o _ q (by rw [hxe]; exact hq'))
                  · intro p' hp'
                    rcases List.mem_cons.mp hp' with rfl | hp'
                    · show M o (zIx _ e.toNat) = qD _ [(1, n)]
                      rw [zix_lt he1, qd_at, hnn, hxe]; omega
                    · exact hK hr p' hp'
              · split at h
                · rename_i e _
                  have hz : ∀ ρ' : Nat → Int, zIx ρ' (1000 + e) = (ρ' e).toNat := by
                    intro ρ'
                    unfold zIx
                    have hb0 : Nat.blt (1000 + e) 1000 = false := by
                      cases hb0 : Nat.blt (1000 + e) 1000 with
                      | false => rfl
                      | true => have := zblt hb0; omega
                    rw [hb0]
                    show (ρ' (1000 + e - 1000)).toNat = _
                    rw [show 1000 + e - 1000 = e by omega]
                  have hxe : qD ρ [(1, e)] = ρ e := by rw [qd_at]; omega
                  split at h
                  · rename_i f hfi
                    cases h
                    refine ⟨ρ, M, ?_, fun _ hf => (nomatch hf), ?_, hI, hF⟩
                    · have h7 := qfind_ok hm hfi
                      rw [hz] at h7
                      rw [hP, qup_self, hxe, h7]
                      rfl
                    · rw [qup_self]; exact hm
                  · cases h
                    refine ⟨_, M, hP2, ?_, ?_, hI, hF⟩
                    · exact qrf_ok (by rw [hr 0 hn]; exact h0) hnn (fun q hq' => hI.1 o _ q (qrs_ok h0 hq' hx0 (by omega)))
                    · intro p' hp'
                      rcases List.mem_cons.mp hp' with rfl | hp'
                      · have he2 : e < n := by
                          have h8 := hsc.1
                          have h9 : (Nat.blt e n && true) = true := h8
                          rw [Bool.and_true] at h9
                          exact zblt h9
                        show M o (zIx _ (1000 + e)) = qD _ [(1, n)]
                        rw [hz, hr e he2, qd_at, hnn, hxe]; omega
                      · exact hK hr p' hp'
                · cases hpl : sInC zPl o with
                  | true =>
                    rw [hpl, cond_true] at h
                    cases h
                    have hr2 : ∀ e, e < n → qUp ρ (fun b => cond (Nat.beq b n) (qD ρ x) (M o (qD ρ x).toNat)) n e = ρ e := fun e h => qup_lt h
                    have hn1 : qUp ρ (fun b => cond (Nat.beq b n) (qD ρ x) (M o (qD ρ x).toNat)) n n = qD ρ x := by
                      rw [qup_ge (Nat.le_refl n), Nat.beq_refl]; rfl
                    have hn2 : qUp ρ (fun b => cond (Nat.beq b n) (qD ρ x) (M o (qD ρ x).toNat)) n (n + 1) = M o (qD ρ x).toNat := by
                      rw [qup_ge (by omega)]
                      have : Nat.beq (n + 1) n = false := by
                        cases hb0 : Nat.beq (n + 1) n with
                        | false => rfl
                        | true => have := Nat.eq_of_beq_eq_true hb0; omega
                      rw [this]; rfl
                    have h00 : qUp ρ (fun b => cond (Nat.beq b n) (qD ρ x) (M o (qD ρ x).toNat)) n 0 = 1 := by rw [hr2 0 hn]; exact h0
                    have hxx : qD (qUp ρ (fun b => cond (Nat.beq b n) (qD ρ x) (M o (qD ρ x).toNat)) n) x = qD ρ x := qd_sc hr2 hsc.1
                    refine ⟨fun b => cond (Nat.beq b n) (qD ρ x) (M o (qD ρ x).toNat), M, ?_, ?_, ?_, hI, hF⟩
                    · rw [hP]
                      show _ = some (1, sE (kd, qD _ [(1, n + 1)]) :: (qDS _ r).map sE, _)
                      rw [qd_at, hn2, qds_sc hr2 hsc.2.2, show (1 : Int) * M o (qD ρ x).toNat = M o (qD ρ x).toNat by omega]
                    · intro f hf'
                      rcases List.mem_cons.mp hf' with rfl | hf'
                      · rw [qd_sub, hxx, qd_at, hn1]; omega
                      · rcases List.mem_cons.mp hf' with rfl | hf'
                        · rw [qd_sub, hxx, qd_at, hn1]; omega
                        · exact qrf_ok h00 hn2 (fun q hq' => hI.1 o _ q (qrs_ok h0 hq' hx0 (by omega))) f hf'
                    · intro p' hp'
                      rcases List.mem_cons.mp hp' with rfl | hp'
                      · have hz : zIx (qUp ρ (fun b => cond (Nat.beq b n) (qD ρ x) (M o (qD ρ x).toNat)) n) (1000 + n) = (qD ρ x).toNat := by
                          unfold zIx
                          have hb0 : Nat.blt (1000 + n) 1000 = false := by
                            cases hb0 : Nat.blt (1000 + n) 1000 with
                            | false => rfl
                            | true => have := zblt hb0; omega
                          rw [hb0]
                          show (qUp ρ _ n (1000 + n - 1000)).toNat = _
                          rw [show 1000 + n - 1000 = n by omega, hn1]
                        show M o (zIx _ (1000 + n)) = qD _ [(1, n + 1)]
                        rw [hz, qd_at, hn2]; omega
                      · exact hK hr2 p' hp'
                  | false =>
                    rw [hpl, cond_false] at h
                    cases h
                    refine ⟨_, M, hP2, ?_, ?_, hI, hF⟩
                    · exact qrf_ok (by rw [hr 0 hn]; exact h0) hnn (fun q hq' => hI.1 o _ q (qrs_ok h0 hq' hx0 (by omega)))
                    · exact hK hr
          · cases h
        · cases h
      · cases h
    · cases h
  · cases h
/-- instruction, kind of array, kind of what is written -/
noncomputable def zSk (i : Instr) (ty t : Nat) (r : Option (Int × Int)) : Bool := match i with
  | .iastore => Nat.beq ty 20 && Nat.beq t 0
  | .bastore => Nat.beq t 0 && (Nat.beq ty 21 || (Nat.beq ty 22 && (match r with | some (0, 1) => true | _ => false)))
  | .lastore => Nat.beq ty 23 && Nat.beq t 1
  | _ => false
noncomputable def qRx (o : Nat) (x : qF) : Option (Option (Int × Int)) := match qKo x with
  | some c => some (sRg o c.toNat)
  | none => (match sRl[o]? with
    | some (_, w, l) => cond (Nat.blt 0 w) (match qRes w x with | some e => some ((l[(e % (w : Int)).toNat]?).getD none) | none => none) none
    | none => some none)
theorem qrx_ok {ρ : Nat → Int} (h0 : ρ 0 = 1) {o : Nat} {x : qF} {r : Option (Int × Int)} (h : qRx o x = some r) (hx : 0 ≤ qD ρ x) {q : Int × Int} (hq : sRg o (qD ρ x).toNat = some q) : r = some q := by
  unfold qRx at h
  split at h
  · rename_i c hc
    cases h
    rw [← qd_ko h0 hc]
    exact hq
  · unfold sRg at hq
    split at h
    · rename_i len w l hl
      rw [hl] at hq
      cases h1 : Nat.blt 0 w with
      | false => rw [h1] at h; cases h
      | true =>
        rw [h1, cond_true] at h
        have e2 : 0 < w := zblt h1
        split at h
        · rename_i e he
          cases h
          have hq : cond (Nat.blt (qD ρ x).toNat len) ((l[(qD ρ x).toNat % w]?).getD none) none = some q := hq
          cases h3 : Nat.blt (qD ρ x).toNat len with
          | false => rw [h3] at hq; cases hq
          | true =>
            rw [h3, cond_true] at hq
            obtain ⟨c, hc⟩ := qres_ok h0 he
            have e3 : (qD ρ x).toNat % w = (e % (w : Int)).toNat := by
              have h4 : (((qD ρ x).toNat % w : Nat) : Int) = qD ρ x % (w : Int) := by
                rw [Int.natCast_emod, Int.toNat_of_nonneg hx]
              have h5 : qD ρ x % (w : Int) = e % (w : Int) := by
                rw [hc, Int.add_mul_emod_self_left]
              have h6 : 0 ≤ e % (w : Int) := Int.emod_nonneg _ (by omega)
              omega
            rw [← e3]
            exact hq
        · cases h
    · rename_i hl
      rw [hl] at hq
      cases hq
/-- of a cell only places below l stay -/
noncomputable def qRmL (mm : qMm) (o l : Nat) : qMm := mm.filter (fun q => !(Nat.beq q.1 o) || (Nat.blt q.2.1 l && Nat.blt q.2.1 1000))
theorem qrml_ok {ρ : Nat → Int} {M : sM} {mm : qMm} {o l k : Nat} {v : Int} (h1 : l ≤ k) (hm : ∀ q ∈ mm, M q.1 (zIx ρ q.2.1) = qD ρ q.2.2) : ∀ q ∈ qRmL mm o l, sU M o k v q.1 (zIx ρ q.2.1) = qD ρ q.2.2 := by
  intro q hq
  obtain ⟨h3, h4⟩ := List.mem_filter.mp hq
  rw [sU_ne]
  · exact hm q h3
  · rintro ⟨rfl, hk⟩
    rw [Nat.beq_refl, Bool.not_true, Bool.false_or, Bool.and_eq_true] at h4
    rw [zix_b h4.2] at hk
    have := zblt h4.1
    omega
noncomputable def qAs (i : Instr) (S : sSt) (st : List qV) (fs : List qF) (mm : qMm) (n : Nat) (hs : qHs) : Option qMr := match st with
  | (t, v) :: (0, x) :: (2, y) :: r => (match qRef y with
    | some o => (match qArr o with
      | some q => (match qRx o x with
        | some g => (match hs with
          | a :: b :: hs1 => cond (qEnt fs x a && (qEnt fs (qSub (qCn ((q.2.2 : Int) - 1)) x) b && (sInX S o x && (zSk i q.2.1 t g && !(match qKo x with | some c => sIn zPl o c.toNat | none => sInC zPl o))))) (cond (Nat.beq q.2.1 21) (cond g.isNone (some (1, r, [], qRmF mm o 1, n, hs1)) none) (match qRk fs g v hs1 with
            | some hs' => (match qKo x with
              | some c => some (1, r, [], (o, c.toNat, v) :: qRm mm o c.toNat, n, hs')
              | none => (match hs' with
                | [] :: hs3 => some (1, r, [], qRmF mm o 1, n, hs3)
                | [(l, 0)] :: w :: hs3 => cond (qEnt fs (qSub x (qCn l)) w) (some (1, r, [], qRmL mm o l.toNat, n, hs3)) none
                | _ => none))
            | none => none)) none
          | _ => none)
        | none => none)
      | none => none)
    | none => none)
  | _ => none
theorem zsk_ok {i : Instr} {ty t : Nat} {g : Option (Int × Int)} {v : Int} (h : zSk i ty t g = true) (hv : ∀ q, g = some q → q.1 ≤ v ∧ v ≤ q.2) : ∃ v' : Int, (¬ ty = 21 → v' = v) ∧ ((i = .iastore ∧ ty = 20 ∧ ∃ u, sE (t, v) = .int u ∧ sE (sC (cond (Nat.beq ty 23) 1 0, 0) v') = sE (t, v)) ∨ (i = .bastore ∧ (ty = 21 ∨ ty = 22) ∧ ∃ u, sE (t, v) = .int u ∧ sE (sC (cond (Nat.beq ty 23) 1 0, 0) v') = narrow (pAty ty) (sE (t, v))) ∨ (i = .lastore ∧ ty = 23 ∧ ∃ u, sE (t, v) = .long u ∧ sE (sC (cond (Nat.beq ty 23) 1 0, 0) v') = sE (t, v))) := by
  unfold zSk at h
  split at h
  · rw [Bool.and_eq_true] at h
    have e1 := Nat.eq_of_beq_eq_true h.1
    have e2 := Nat.eq_of_beq_eq_true h.2
    subst e1; subst e2
    exact ⟨v, fun _ => rfl, Or.inl ⟨rfl, rfl, _, rfl, rfl⟩⟩
  · rw [Bool.and_eq_true, Bool.or_eq_true] at h
    have e2 := Nat.eq_of_beq_eq_true h.1
    subst e2
    rcases h.2 with h1 | h1
    · have e1 := Nat.eq_of_beq_eq_true h1
      subst e1
      refine ⟨((Int32.ofInt v).toInt8.toInt32).toInt, fun h => absurd rfl h, Or.inr (Or.inl ⟨rfl, Or.inl rfl, _, rfl, ?_⟩)⟩
      show Value.int (Int32.ofInt ((Int32.ofInt v).toInt8.toInt32).toInt) = Value.int (Int32.ofInt v).toInt8.toInt32
      rw [i32_of]
    · rw [Bool.and_eq_true] at h1
      have e1 := Nat.eq_of_beq_eq_true h1.1
      subst e1
      have hr : g = some (0, 1) := by
        have := h1.2
        split at this
        · rfl
        · cases this
      have hb : 0 ≤ v ∧ v ≤ 1 := hv _ hr
      refine ⟨v, fun _ => rfl, Or.inr (Or.inl ⟨rfl, Or.inr rfl, _, rfl, ?_⟩)⟩
      show Value.int (Int32.ofInt v) = Value.int (Int32.ofInt v &&& 1)
      rw [zn_and1 hb]
  · rw [Bool.and_eq_true] at h
    have e1 := Nat.eq_of_beq_eq_true h.1
    have e2 := Nat.eq_of_beq_eq_true h.2
    subst e1; subst e2
    exact ⟨v, fun _ => rfl, Or.inr (Or.inr ⟨rfl, rfl, _, rfl, rfl⟩)⟩
  · cases h
theorem qas_ok {c : Nat} {ini : Bool} {i : Instr} {a n : Nat} {st : List qV} {fs : List qF} {mm : qMm} {hs : qHs} {q : qMr} (h : qAs i S st fs mm n hs = some q) : qMok c ini i a J M0 S st fs mm n q := by
  intro ρ M hn h0 hsc hsm hf hm hI hF
  unfold qAs at h
  split at h
  · rename_i t v x y r
    split at h
    · rename_i o ho
      have hy := qref_ok h0 ho
      split at h
      · rename_i p hp
        obtain ⟨hl, hb⟩ := qarr_ok hp
        split at h
        · rename_i g hg
          split at h
          · rename_i u w hs1
            cases h1 : (qEnt fs x u && (qEnt fs (qSub (qCn ((p.2.2 : Int) - 1)) x) w && (sInX S o x && (zSk i p.2.1 t g && !(match qKo x with | some c => sIn zPl o c.toNat | none => sInC zPl o))))) with
            | false => rw [h1] at h; cases h
            | true =>
              rw [h1, cond_true] at h
              rw [Bool.and_eq_true, Bool.and_eq_true, Bool.and_eq_true, Bool.and_eq_true, Bool.not_eq_true'] at h1
              obtain ⟨g1, g2, g3, g4, g5⟩ := h1
              have g6 : sIn zPl o (qD ρ x).toNat = false := by
                split at g5
                · rename_i c hc
                  rw [qd_ko h0 hc]
                  exact g5
                · exact sinc_ok g5 _
              have hx0 := qd_ent h0 hf g1
              have hx1 := qd_ent h0 hf g2
              rw [qd_sub, qd_cn h0] at hx1
              have hgo : ∀ (v' : Int) (z : ((i = .iastore ∧ p.2.1 = 20 ∧ ∃ u, sE (t, qD ρ v) = .int u ∧ sE (sC (cond (Nat.beq p.2.1 23) 1 0, 0) v') = sE (t, qD ρ v)) ∨ (i = .bastore ∧ (p.2.1 = 21 ∨ p.2.1 = 22) ∧ ∃ u, sE (t, qD ρ v) = .int u ∧ sE (sC (cond (Nat.beq p.2.1 23) 1 0, 0) v') = narrow (pAty p.2.1) (sE (t, qD ρ v))) ∨ (i = .lastore ∧ p.2.1 = 23 ∧ ∃ u, sE (t, qD ρ v) = .long u ∧ sE (sC (cond (Nat.beq p.2.1 23) 1 0, 0) v') = sE (t, qD ρ v)))), pMem false c ini i a ((qDS ρ ((t, v) :: (0, x) :: (2, y) :: r)).map sE) (sHp sLay M ++ J) = some (1, (qDS ρ r).map sE, sHp sLay (sU M o (qD ρ x).toNat v') ++ J) := by
                intro v' z
                have := zm_st (M := M) (J := J) (c := c) (ini := ini) (a := a) (rest := (qDS ρ r).map sE) z hl hx0 (by omega) hb
                rw [← this]
                show pMem false c ini i a (sE (t, qD ρ v) :: Value.int (Int32.ofInt (qD ρ x)) :: Value.ref (qD ρ y).toNat :: (qDS ρ r).map sE) _ = _
                rw [hy]
                rfl
              have hmF : ∀ v' : Int, ∀ p' ∈ qRmF mm o 1, sU M o (qD ρ x).toNat v' p'.1 (zIx ρ p'.2.1) = qD ρ p'.2.2 := fun v' => qrmf_ok (Nat.le_refl o) (by omega) hm
              cases h2 : Nat.beq p.2.1 21 with
              | true =>
                rw [h2, cond_true] at h
                cases h3 : g.isNone with
                | false => rw [h3] at h; cases h
                | true =>
                  rw [h3] at h
                  cases h
                  have hgn : g = none := by simpa using h3
                  obtain ⟨v', -, hv'⟩ := zsk_ok (v := qD ρ v) g4 (fun q hq => by rw [hgn] at hq; cases hq)
                  refine ⟨ρ, sU M o (qD ρ x).toNat v', ?_, fun _ hf => (nomatch hf), ?_, si_u hI g6 (fun q hq => ?_), sf_u hF (sinx_ok h0 g3)⟩
                  · rw [qup_self]; exact hgo v' hv'
                  · rw [qup_self]; exact hmF v'
                  · have := qrx_ok h0 hg hx0 hq
                    rw [hgn] at this
                    cases this
              | false =>
                rw [h2, cond_false] at h
                split at h
                · rename_i hs' hk
                  have hr := qrk_ok h0 hf hk
                  obtain ⟨v', he, hv'⟩ := zsk_ok (v := qD ρ v) g4 hr
                  have he := he (fun z => by rw [z] at h2; cases h2)
                  subst he
                  have hgoal : ∀ (mm' : qMm) (hs3 : qHs), (∀ p' ∈ mm', sU M o (qD ρ x).toNat (qD ρ v) p'.1 (zIx ρ p'.2.1) = qD ρ p'.2.2) → ∃ (ρ1 : Nat → Int) (M' : sM), pMem false c ini i a ((qDS ρ ((t, v) :: (0, x) :: (2, y) :: r)).map sE) (sHp sLay M ++ J) = some (1, (qDS (qUp ρ ρ1 n) r).map sE, sHp sLay M' ++ J) ∧ (∀ f ∈ ([] : List qF), 0 ≤ qD (qUp ρ ρ1 n) f) ∧ (∀ p ∈ mm', M' p.1 (zIx (qUp ρ ρ1 n) p.2.1) = qD (qUp ρ ρ1 n) p.2.2) ∧ sI M' ∧ sF S M0 M' := by
                    intro mm' hs3 hmm
                    refine ⟨ρ, sU M o (qD ρ x).toNat (qD ρ v), ?_, fun _ hf => (nomatch hf), ?_, si_u hI g6 (fun q hq => hr q (qrx_ok h0 hg hx0 hq)), sf_u hF (sinx_ok h0 g3)⟩
                    · rw [qup_self]; exact hgo _ hv'
                    · rw [qup_self]; exact hmm
                  split at h
                  · rename_i e hc
                    cases h
                    refine hgoal _ hs' (fun p' hp' => ?_)
                    have hxe := qd_ko h0 hc
                    have he1 : e.toNat < 1000 := by
                      have := qarr_s hp
                      omega
                    rw [hxe]
                    rcases List.mem_cons.mp hp' with rfl | hp'
                    · show sU M o e.toNat (qD ρ v) o (zIx ρ e.toNat) = qD ρ v
                      rw [zix_lt he1]
                      exact sU_at _ _ _ _
                    · exact qrm_ok hm p' hp'
                  · split at h
                    · rename_i hs3
                      cases h
                      exact hgoal _ hs3 (hmF _)
                    · rename_i l w3 hs3
                      obtain ⟨h8, h9⟩ := zcond h
                      cases h9
                      have h10 := qd_ent h0 hf h8
                      rw [qd_sub, qd_cn h0] at h10
                      exact hgoal _ hs3 (qrml_ok (by omega) hm)
                    · cases h
                · cases h
          · cases h
        · cases h
      · cases h
    · cases h
  · cases h
/-- arrays of objects, one behind another: the array, its kind, the first object, how many -/
def sCo : List (Nat × Nat × Nat × Nat) := [(3, 24, 13, 9), (4, 25, 22, 6), (29, 24, 39, 9), (30, 25, 48, 6)]
theorem sco_ok : sCo.all (fun q => decide (sLay[q.1]? = some (q.2.1, (List.range q.2.2.2).map (fun j => (2, q.2.2.1 + j)))) && (Nat.ble q.2.2.2 4096 && (Nat.beq q.2.1 24 || Nat.beq q.2.1 25))) = true := by decide +kernel
noncomputable def qAa (st : List qV) (fs : List qF) (mm : qMm) (n : Nat) (hs : qHs) : Option qMr := match st with
  | (0, x) :: (2, y) :: r => (match qRef y with
    | some o => (match sCo.find? (fun q => Nat.beq q.1 o) with
      | some q => (match hs with
        | a :: b :: hs' => cond (qEnt fs x a && qEnt fs (qSub (qCn ((q.2.2.2 : Int) - 1)) x) b) (some (1, (2, qAdd x (qCn (q.2.2.1 : Int))) :: r, [], mm, n, hs')) none
        | _ => none)
      | none => none)
    | none => none)
  | _ => none
theorem qaa_ok {c : Nat} {ini : Bool} {a n : Nat} {st : List qV} {fs : List qF} {mm : qMm} {hs : qHs} {q : qMr} (h : qAa st fs mm n hs = some q) : qMok c ini .aaload a J M0 S st fs mm n q := by
  intro ρ M hn h0 hsc hsm hf hm hI hF
  unfold qAa at h
  split at h
  · rename_i x y r
    split at h
    · rename_i o ho
      have hy := qref_ok h0 ho
      split at h
      · rename_i p hp
        have e0 := List.find?_some hp
        have e := Nat.eq_of_beq_eq_true e0
        have h3 := List.all_eq_true.mp sco_ok p (List.mem_of_find?_eq_some hp)
        rw [Bool.and_eq_true, Bool.and_eq_true, Bool.or_eq_true] at h3
        have hl : sLay[o]? = some (p.2.1, (List.range p.2.2.2).map (fun j => (2, p.2.2.1 + j))) := by rw [← e]; exact of_decide_eq_true h3.1
        split at h
        · rename_i u v hs'
          obtain ⟨h1, h2⟩ := zcond h
          cases h2
          rw [Bool.and_eq_true] at h1
          have hx0 := qd_ent h0 hf h1.1
          have hx1 := qd_ent h0 hf h1.2
          rw [qd_sub, qd_cn h0] at hx1
          refine ⟨ρ, M, ?_, fun _ hf => (nomatch hf), ?_, hI, hF⟩
          · have := zm_ald (M := M) (J := J) (c := c) (ini := ini) (a := a) (rest := (qDS ρ r).map sE) (h3.2.2.imp Nat.eq_of_beq_eq_true Nat.eq_of_beq_eq_true) hl hx0 (by omega) (Nat.le_of_ble_eq_true h3.2.1)
            rw [qup_self]
            refine Eq.trans ?_ (this.trans ?_)
            · show pMem false c ini .aaload a (Value.int (Int32.ofInt (qD ρ x)) :: Value.ref (qD ρ y).toNat :: (qDS ρ r).map sE) _ = _
              rw [hy]
              rfl
            · show _ = some (1, Value.ref (qD ρ (qAdd x (qCn _))).toNat :: _, _)
              rw [qd_add, qd_cn h0, show (qD ρ x + (p.2.2.1 : Int)).toNat = p.2.2.1 + (qD ρ x).toNat by omega]
              rfl
          · rw [qup_self]; exact hm
        · cases h
      · cases h
    · cases h
  · cases h
/-- numbers that stand in the program, lengths of arrays -/
noncomputable def qMi (i : Instr) (a : Nat) (st : List qV) (mm : qMm) (n : Nat) (hs : qHs) : Option qMr := match i with
  | .ldc _ => match pKs[a]? with | some q => some (2, (0, qCn q.2.2.toInt) :: st, [], mm, n, hs) | none => none
  | .ldc_w _ => match pKs[a]? with | some q => some (3, (0, qCn q.2.2.toInt) :: st, [], mm, n, hs) | none => none
  | .ldc2_w _ => match pK2[a]? with | some q => some (3, (1, qCn q.2.2.toInt) :: st, [], mm, n, hs) | none => none
  | .arraylength => match st with
    | (2, y) :: r => (match qRef y with
      | some o => (match qArr o with | some q => cond (Nat.ble 20 q.2.1 && Nat.ble q.2.1 25) (some (1, (0, qCn (q.2.2 : Int)) :: r, [], mm, n, hs)) none | none => none)
      | none => none)
    | _ => none
  | _ => none
theorem zm_len {lay : List sCl} {M : sM} {J : pHp} {c : Nat} {ini : Bool} {a o : Nat} {c1 : sCl} {rest : List Value} (hl : lay[o]? = some c1) (ht : 20 ≤ c1.1 ∧ c1.1 ≤ 25) : pMem false c ini .arraylength a (Value.ref o :: rest) (sHp lay M ++ J) = some (1, Value.int (Int32.ofNat c1.2.length) :: rest, sHp lay M ++ J) := by
  show (match (sHp lay M ++ J)[o]? with
    | some q => if 20 ≤ q.1 ∧ q.1 ≤ 25 then some (1, Value.int (Int32.ofNat q.2.length) :: rest, sHp lay M ++ J) else none
    | none => none) = _
  rw [shj_at hl]
  show (if 20 ≤ c1.1 ∧ c1.1 ≤ 25 then some (1, Value.int (Int32.ofNat (sCell M o c1).2.length) :: rest, sHp lay M ++ J) else none) = _
  rw [if_pos ht, scell_len]
theorem qmi_ok {c : Nat} {ini : Bool} {i : Instr} {a n : Nat} {st : List qV} {fs : List qF} {mm : qMm} {hs : qHs} {q : qMr} (h : qMi i a st mm n hs = some q) : qMok c ini i a J M0 S st fs mm n q := by
  intro ρ M hn h0 hsc hsm hf hm hI hF
  unfold qMi at h
  split at h
  · split at h
    · rename_i q' hq
      cases h
      refine ⟨ρ, M, ?_, fun _ hf => (nomatch hf), by rw [qup_self]; exact hm, hI, hF⟩
      rw [qup_self]
      show (match pKs[a]? with | some q => some (2, Value.int q.2.2 :: (qDS ρ st).map sE, sHp sLay M ++ J) | none => none) = some (2, Value.int (Int32.ofInt (qD ρ (qCn _))) :: _, _)
      rw [hq, qd_cn h0, i32_of]
      rfl
    · cases h
  · split at h
    · rename_i q' hq
      cases h
      refine ⟨ρ, M, ?_, fun _ hf => (nomatch hf), by rw [qup_self]; exact hm, hI, hF⟩
      rw [qup_self]
      show (match pKs[a]? with | some q => some (3, Value.int q.2.2 :: (qDS ρ st).map sE, sHp sLay M ++ J) | none => none) = some (3, Value.int (Int32.ofInt (qD ρ (qCn _))) :: _, _)
      rw [hq, qd_cn h0, i32_of]
      rfl
    · cases h
  · split at h
    · rename_i q' hq
      cases h
      refine ⟨ρ, M, ?_, fun _ hf => (nomatch hf), by rw [qup_self]; exact hm, hI, hF⟩
      rw [qup_self]
      show (match pK2[a]? with | some q => some (3, Value.long q.2.2 :: (qDS ρ st).map sE, sHp sLay M ++ J) | none => none) = some (3, Value.long (Int64.ofInt (qD ρ (qCn _))) :: _, _)
      rw [hq, qd_cn h0, i64_of]
      rfl
    · cases h
  · split at h
    · rename_i y r
      split at h
      · rename_i o ho
        have hy := qref_ok h0 ho
        split at h
        · rename_i p hp
          obtain ⟨h1, h2⟩ := zcond h
          cases h2
          rw [Bool.and_eq_true] at h1
          obtain ⟨hl, hb⟩ := qarr_ok hp
          refine ⟨ρ, M, ?_, fun _ hf => (nomatch hf), by rw [qup_self]; exact hm, hI, hF⟩
          have := zm_len (M := M) (J := J) (c := c) (ini := ini) (a := a) (rest := (qDS ρ r).map sE) hl ⟨Nat.le_of_ble_eq_true h1.1, Nat.le_of_ble_eq_true h1.2⟩
          rw [qup_self]
          refine Eq.trans ?_ (this.trans ?_)
          · show pMem false c ini .arraylength a (Value.ref (qD ρ y).toNat :: (qDS ρ r).map sE) _ = _
            rw [hy]
            rfl
          · show some (1, Value.int (Int32.ofNat (List.replicate p.2.2 _).length) :: _, _) = some (1, Value.int (Int32.ofInt (qD ρ (qCn _))) :: _, _)
            rw [List.length_replicate, qd_cn h0]
            rfl
        · cases h
      · cases h
    · cases h
  · cases h
end MEM3
