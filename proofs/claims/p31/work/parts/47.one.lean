/-! RETURNS, ONE INSTRUCTION, JUMPS TO A CUT, A RUN. -/
noncomputable def qSr (g : Nat) (f : qF) (pl : List qF) (a : Nat) : qF := cond (Nat.blt a g) [(1, a)] (cond (Nat.beq a g) f (qSg pl (a - g - 1)))
/-- what must lie at a place at the end, as a form -/
noncomputable def qTf (g : Nat) (f : qF) (pl : List qF) (a : Nat) : qF := cond (Nat.blt a 100000) (qSr g f pl a) (qCn ((a : Int) - 100000))
noncomputable def qPo (c : qCt) (f : qF) (fs : List qF) (mm : qMm) (hs : qHs) : Option qHs := match hs with
  | [(j, 0)] :: hs1 => (match (cO c)[j.toNat]? with
    | some al => cond ((cT c).all (fun q => Nat.blt q.2.1 1000 && (qFind mm q.1 q.2.1 == some (qTf (cG c) f ((cT c).map (fun q => (qFind mm q.1 q.2.1).getD [])) q.2.2)))) (qEnts fs (al.map (qSb (qSr (cG c) f ((cT c).map (fun q => (qFind mm q.1 q.2.1).getD []))))) hs1) none
    | none => none)
  | _ => none
noncomputable def qRet (c : qCt) (rt : Option FieldType) (i : Instr) (len : Nat) (st : List qV) (fs : List qF) (mm : qMm) (hs : qHs) : Option qHs := match i with
  | .ireturn => match st with
    | [(0, f)] => cond (Nat.beq (cR c) 0 && Nat.beq len 1) (match rt with
      | some .int => qPo c f fs mm hs
      | some .boolean => (match hs with | a :: b :: hs' => cond (qEnt fs f a && qEnt fs (qSub (qCn 1) f) b) (qPo c f fs mm hs') none | _ => none)
      | some ty => (match qKo f with | some k => cond (decide (narrow ty (.int (Int32.ofInt k)) = .int (Int32.ofInt k))) (qPo c f fs mm hs) none | none => none)
      | _ => none) none
    | _ => none
  | .lreturn => match st with
    | [(1, f)] => cond (Nat.beq (cR c) 1 && Nat.beq len 1) (match rt with
      | some .long => qPo c f fs mm hs
      | _ => none) none
    | _ => none
  | .return_ => match st with
    | [] => cond (Nat.beq (cR c) 9 && Nat.beq len 1) (match rt with
      | none => qPo c [] fs mm hs
      | _ => none) none
    | _ => none
  | _ => none
theorem qpo_ok {c : qCt} {f : qF} {fs : List qF} {mm : qMm} {hs hs' : qHs} (h : qPo c f fs mm hs = some hs') {ρ ρc : Nat → Int} {M0 M : sM} (h0 : ρ 0 = 1) (hf : ∀ f ∈ fs, 0 ≤ qD ρ f) (hm : ∀ q ∈ mm, M q.1 (zIx ρ q.2.1) = qD ρ q.2.2) (hg : ∀ a, a < cG c → ρ a = ρc a) (hI : sI M) (hF : sF (cS c) M0 M) : qPost c ρc M0 (qRv (cR c) (qD ρ f)) M := by
  unfold qPo at h
  split at h
  next j hs1 =>
   split at h
   next al hal =>
    cases h1 : ((cT c).all (fun q => Nat.blt q.2.1 1000 && (qFind mm q.1 q.2.1 == some (qTf (cG c) f ((cT c).map (fun q => (qFind mm q.1 q.2.1).getD [])) q.2.2)))) with
    | false => rw [h1] at h; cases h
    | true =>
      rw [h1, cond_true] at h
      generalize (cT c).map (fun q => (qFind mm q.1 q.2.1).getD []) = pl at *
      refine ⟨fun a => qD ρ (qSr (cG c) f pl a), ?_, ?_, ?_, ?_, hI, hF⟩
      · intro a ha
        show qD ρ (qSr (cG c) f pl a) = ρc a
        unfold qSr
        rw [show Nat.blt a (cG c) = true from Nat.ble_eq_true_of_le ha, cond_true, qd_at, hg a ha]
        omega
      · have : qSr (cG c) f pl (cG c) = f := by
          unfold qSr
          have hb : Nat.blt (cG c) (cG c) = false := by
            cases hb : Nat.blt (cG c) (cG c) with
            | false => rfl
            | true => exact absurd (zblt hb) (Nat.lt_irrefl _)
          rw [hb, cond_false, Nat.beq_refl, cond_true]
        show qRv (cR c) (qD ρ f) = qRv (cR c) (qD ρ (qSr (cG c) f pl (cG c)))
        rw [this]
      · refine ⟨al, List.mem_of_getElem? hal, ?_⟩
        intro f' hf'
        have := qents_ok h0 hf h _ (List.mem_map_of_mem hf')
        rw [qd_sb] at this
        exact this
      · intro q hq
        have h2 := List.all_eq_true.mp h1 q hq
        rw [Bool.and_eq_true] at h2
        have h3 := qfind_ok hm (eq_of_beq h2.2)
        rw [zix_b h2.1] at h3
        rw [h3]
        unfold qTf qTv
        cases Nat.blt q.2.2 100000 with
        | true => rfl
        | false => exact qd_cn h0 _
   next => cases h
  next => cases h
section ONE
variable {d K : Nat} {J : pHp} {M0 : sM} {S : sSt} {g : Nat} {ρ0 ρc : Nat → Int} {c : qCt}
theorem qret_ok {i : Instr} {pc len a : Nat} {lv : qLv} {st : List qV} {fs : List qF} {mm : qMm} {hs hs' : qHs} (he : (pc, i, len, a) ∈ pTs.getD K []) (ha : a < 99999) (hcg : ∀ a, a < cG c → ρ0 a = ρc a) (hle : cG c ≤ g) (h : qRet c (pMt K).2.2.2.2.1 i len st fs mm hs = some hs') : qG d K J (qPost c ρc M0) M0 (cS c) g ρ0 pc lv st fs mm := by
  intro ρ M hg h0 hf hm hI hF
  have hgc : ∀ a, a < cG c → ρ a = ρc a := fun a ha => (hg a (by omega)).trans (hcg a ha)
  unfold qRet at h
  split at h
  · split at h
    · rename_i f
      cases h1 : (Nat.beq (cR c) 0 && Nat.beq len 1) with
      | false => rw [h1] at h; cases h
      | true =>
        rw [h1, cond_true] at h
        rw [Bool.and_eq_true] at h1
        have e1 := Nat.eq_of_beq_eq_true h1.1
        have e2 := Nat.eq_of_beq_eq_true h1.2
        subst e2
        split at h
        · rename_i hr
          have hp := qpo_ok h h0 hf hm hgc hI hF
          rw [e1] at hp
          exact sr_iret he ha hr rfl hp
        · rename_i hr
          split at h
          · rename_i u v hs2
            cases h3 : (qEnt fs f u && qEnt fs (qSub (qCn 1) f) v) with
            | false => rw [h3] at h; cases h
            | true =>
              rw [h3, cond_true] at h
              rw [Bool.and_eq_true] at h3
              have h4 := qd_ent h0 hf h3.1
              have h5 := qd_ent h0 hf h3.2
              rw [qd_sub, qd_cn h0] at h5
              have hp := qpo_ok h h0 hf hm hgc hI hF
              rw [e1] at hp
              refine sr_iret he ha hr ?_ hp
              show Value.int (Int32.ofInt (qD ρ f) &&& 1) = Value.int (Int32.ofInt (qD ρ f))
              rw [zn_and1 ⟨h4, by omega⟩]
          · cases h
        · rename_i ty _ _ hr
          split at h
          · rename_i k hk
            cases h3 : decide (narrow ty (.int (Int32.ofInt k)) = .int (Int32.ofInt k)) with
            | false => rw [h3] at h; cases h
            | true =>
              rw [h3, cond_true] at h
              have hp := qpo_ok h h0 hf hm hgc hI hF
              rw [e1] at hp
              refine sr_iret he ha hr ?_ hp
              rw [qd_ko h0 hk]
              exact of_decide_eq_true h3
          · cases h
        · cases h
    · cases h
  · split at h
    · rename_i f
      cases h1 : (Nat.beq (cR c) 1 && Nat.beq len 1) with
      | false => rw [h1] at h; cases h
      | true =>
        rw [h1, cond_true] at h
        rw [Bool.and_eq_true] at h1
        have e1 := Nat.eq_of_beq_eq_true h1.1
        have e2 := Nat.eq_of_beq_eq_true h1.2
        subst e2
        split at h
        · rename_i hr
          have hp := qpo_ok h h0 hf hm hgc hI hF
          rw [e1] at hp
          refine ⟨1, some (1, qD ρ f), M, ⟨_, he, rfl, ha, Or.inl ⟨?_, rfl⟩⟩, hp⟩
          unfold pRet
          rw [hr]
          rfl
        · cases h
    · cases h
  · split at h
    · cases h1 : (Nat.beq (cR c) 9 && Nat.beq len 1) with
      | false => rw [h1] at h; cases h
      | true =>
        rw [h1, cond_true] at h
        rw [Bool.and_eq_true] at h1
        have e1 := Nat.eq_of_beq_eq_true h1.1
        have e2 := Nat.eq_of_beq_eq_true h1.2
        subst e2
        split at h
        · rename_i hr
          have hp := qpo_ok h h0 hf hm hgc hI hF
          rw [e1] at hp
          exact sr_vret he ha hr hp
        · cases h
    · cases h
  · cases h
/-! one instruction: the states behind it -/
abbrev qS : Type := Nat × qLv × List qV × List qF × qMm × Nat
noncomputable def qMd (S : sSt) (i : Instr) (a : Nat) (st : List qV) (fs : List qF) (mm : qMm) (n : Nat) (hs : qHs) : Option qMr := match i with
  | .getfield _ => qGf a st fs mm n hs
  | .putfield _ => qPf S a st fs mm n hs
  | .iaload => qAl .iaload st fs mm n hs
  | .baload => qAl .baload st fs mm n hs
  | .laload => qAl .laload st fs mm n hs
  | .aaload => qAa st fs mm n hs
  | .iastore => qAs .iastore S st fs mm n hs
  | .bastore => qAs .bastore S st fs mm n hs
  | .lastore => qAs .lastore S st fs mm n hs
  | .ldc x => qMi (.ldc x) a st mm n hs
  | .ldc_w x => qMi (.ldc_w x) a st mm n hs
  | .ldc2_w x => qMi (.ldc2_w x) a st mm n hs
  | .arraylength => qMi .arraylength a st mm n hs
  | .invokestatic _ => qAc S a st mm n hs
  | _ => none
theorem qmd_ok {S : sSt} {J : pHp} {M0 : sM} {c : Nat} {ini : Bool} {i : Instr} {a n : Nat} {st : List qV} {fs : List qF} {mm : qMm} {hs : qHs} {q : qMr} (h : qMd S i a st fs mm n hs = some q) : qMok c ini i a J M0 S st fs mm n q := by
  unfold qMd at h
  split at h
  · exact qgf_ok h
  · exact qpf_ok h
  · exact qal_ok h
  · exact qal_ok h
  · exact qal_ok h
  · exact qaa_ok h
  · exact qas_ok h
  · exact qas_ok h
  · exact qas_ok h
  · exact qmi_ok h
  · exact qmi_ok h
  · exact qmi_ok h
  · exact qmi_ok h
  · exact qac_ok h
  · cases h
theorem qg_mem (hg1 : 0 < g) {Q : Option sV → sM → Prop} {i : Instr} {pc len a n : Nat} {lv : qLv} {st : List qV} {fs : List qF} {mm : qMm} {q : qMr} (he : (pc, i, len, a) ∈ pTs.getD K []) (ha : a < 99999) (hsc : qScA g n lv st fs mm = true) (hlen : q.1 = len) (hq : qMok (pMt K).1 ((pMt K).2.1.name == "<init>") i a J M0 S st fs mm n q) (k : qG d K J Q M0 S g ρ0 (pc + len) lv q.2.1 (qPp fs q.2.2.1) q.2.2.2.1) : qG d K J Q M0 S g ρ0 pc lv st fs mm := by
  intro ρ M hg h0 hf hm hI hF
  obtain ⟨s1, s2, s3, s4, s5⟩ := qsa hsc
  obtain ⟨ρ1, M', h1, h2, h3, h4, h5⟩ := hq ρ M (by omega) h0 s3 s5 hf hm hI hF
  obtain ⟨e1, e2, e3, e4, e5, e6⟩ := qg_new (ρ1 := ρ1) hg1 hsc hg h0 hf hm
  have h6 := k _ M' e1 e2 (fun f hf' => by
    rcases qpp_mem hf' with h | h
    · exact e3 f h
    · exact h2 f h) h3 h4 h5
  rw [e5] at h6
  subst hlen
  exact sr_stp he ha rfl (Or.inr (Or.inr (Or.inr (Or.inr ⟨_, _, h1, rfl⟩)))) h6
/-- what lies outside the heap: the text of the language and its bytes -/
noncomputable def qXt (i : Instr) (a : Nat) (st : List qV) : Option (Nat × List qV) := match i with
  | .ldc _ => cond (Nat.beq a 900) (some (2, (3, []) :: st)) none
  | .getstatic _ => cond (Nat.beq a 9100) (some (3, (0, qCn 1) :: st)) (cond (Nat.beq a 9101) (some (3, (3, qCn 2) :: st)) none)
  | .getfield _ => match st with
    | (3, x) :: r => (match qKo x with
      | some 0 => cond (Nat.beq a 9000) (some (3, (3, qCn 1) :: r)) (cond (Nat.beq a 9001) (some (3, (0, []) :: r)) none)
      | _ => none)
    | _ => none
  | .arraylength => match st with
    | (3, x) :: r => (match qKo x with | some 1 => some (1, (0, qCn (pLang.length : Int)) :: r) | _ => none)
    | _ => none
  | .baload => match st with
    | (0, x) :: (3, y) :: r => (match qKo x, qKo y with
      | some c, some 1 => cond (zNg c) none (match pLang[c.toNat]? with
        | some (.int v) => cond (Nat.blt c.toNat 4096) (some (1, (0, qCn v.toInt) :: r)) none
        | _ => none)
      | _, _ => none)
    | _ => none
  | _ => none
theorem pl_len : pLang.length ≤ 4096 := by decide +kernel
set_option maxRecDepth 100000 in
theorem qxt_ok {i : Instr} {a len : Nat} {st st' : List qV} (h : qXt i a st = some (len, st')) (ρ : Nat → Int) (h0 : ρ 0 = 1) : pXtr i a ((qDS ρ st).map sE) = some (len, (qDS ρ st').map sE) := by
  unfold qXt at h
  split at h
  · obtain ⟨h1, h2⟩ := zcond h
    cases h2
    have e := Nat.eq_of_beq_eq_true h1
    subst e
    rfl
  · cases h1 : Nat.beq a 9100 with
    | true =>
      rw [h1] at h
      cases h
      have e := Nat.eq_of_beq_eq_true h1
      subst e
      show some (3, Value.int 1 :: _) = some (3, Value.int (Int32.ofInt (qD ρ (qCn 1))) :: _)
      rw [qd_cn h0]; rfl
    | false =>
      rw [h1, cond_false] at h
      obtain ⟨h1, h2⟩ := zcond h
      cases h2
      have e := Nat.eq_of_beq_eq_true h1
      subst e
      show some (3, Value.float 2 :: _) = some (3, Value.float (UInt32.ofNat (qD ρ (qCn 2)).toNat) :: _)
      rw [qd_cn h0]; rfl
  · split at h
    · rename_i x r
      split at h
      · rename_i hx
        have ex := qd_ko h0 hx
        have hS : (qDS ρ ((3, x) :: r)).map sE = Value.float 0 :: (qDS ρ r).map sE := by
          show Value.float (UInt32.ofNat (qD ρ x).toNat) :: _ = _
          rw [ex]; rfl
        rw [hS]
        cases h1 : Nat.beq a 9000 with
        | true =>
          rw [h1] at h
          cases h
          have e := Nat.eq_of_beq_eq_true h1
          subst e
          show some (3, Value.float 1 :: _) = some (3, Value.float (UInt32.ofNat (qD ρ (qCn 1)).toNat) :: _)
          rw [qd_cn h0]; rfl
        | false =>
          rw [h1, cond_false] at h
          obtain ⟨h1, h2⟩ := zcond h
          cases h2
          have e := Nat.eq_of_beq_eq_true h1
          subst e
          rfl
      · cases h
    · cases h
  · split at h
    · rename_i x r
      split at h
      · rename_i hx
        cases h
        have ex := qd_ko h0 hx
        have hS : (qDS ρ ((3, x) :: r)).map sE = Value.float 1 :: (qDS ρ r).map sE := by
          show Value.float (UInt32.ofNat (qD ρ x).toNat) :: _ = _
          rw [ex]; rfl
        rw [hS]
        show some (1, Value.int (Int32.ofNat pLang.length) :: _) = some (1, Value.int (Int32.ofInt (qD ρ (qCn (pLang.length : Int)))) :: _)
        rw [qd_cn h0]; rfl
      · cases h
    · cases h
  · split at h
    · rename_i x y r
      split at h
      · rename_i c hx hy
        have ex := qd_ko h0 hx
        have ey := qd_ko h0 hy
        cases hn : zNg c with
        | true => rw [hn] at h; cases h
        | false =>
          rw [hn, cond_false] at h
          have hc := zng_f hn
          split at h
          · rename_i v hv
            obtain ⟨h1, h2⟩ := zcond h
            cases h2
            have hlt : c.toNat < pLang.length := (List.getElem?_eq_some_iff.mp hv).1
            have hS : (qDS ρ ((0, x) :: (3, y) :: r)).map sE = Value.int (Int32.ofInt c) :: Value.float 1 :: (qDS ρ r).map sE := by
              show Value.int (Int32.ofInt (qD ρ x)) :: Value.float (UInt32.ofNat (qD ρ y).toNat) :: _ = _
              rw [ex, ey]; rfl
            rw [hS]
            show (if (1 : UInt32) = 1 then (pLd pLang (Int32.ofInt c)).map (fun v => (1, v :: (qDS ρ r).map sE)) else none) = some (1, Value.int (Int32.ofInt (qD ρ (qCn v.toInt))) :: _)
            have hp : pLd pLang (Int32.ofInt c) = some (.int v) := by
              unfold pLd
              rw [six_of hc (by omega) pl_len]
              exact hv
            rw [if_pos rfl, hp, qd_cn h0, i32_of]
            rfl
          · cases h
      · cases h
    · cases h
  · cases h
noncomputable def zInv (i : Instr) : Bool := match i with
  | .invokestatic _ => true
  | .invokevirtual _ => true
  | _ => false
noncomputable def zRet (i : Instr) : Bool := match i with
  | .ireturn => true
  | .lreturn => true
  | .return_ => true
  | _ => false
noncomputable def zNeg (i : Instr) : Bool := match i with
  | .ineg => true
  | _ => false
abbrev qRe : Type := Option (List qS × qHs)
noncomputable def qO1 (g : Nat) (i : Instr) (len : Nat) (s : qS) (hs : qHs) : qRe := match qHv i s.2.2.1 s.2.2.2.1 s.2.2.2.2.2 hs with
  | some r => cond (Nat.beq r.2.1 len && (qScA g s.2.2.2.2.2 s.2.1 r.2.2.1 s.2.2.2.1 s.2.2.2.2.1 && s.2.2.1.all (fun v => qSc s.2.2.2.2.2 v.2))) (some ([(s.1 + len, s.2.1, (r.1, [(1, s.2.2.2.2.2)]) :: r.2.2.1, qPp s.2.2.2.1 r.2.2.2.1, s.2.2.2.2.1, s.2.2.2.2.2 + 1)], r.2.2.2.2)) none
  | none => none
noncomputable def qO2 (g : Nat) (i : Instr) (len : Nat) (s : qS) (hs : qHs) : qRe := match qEx i s.2.2.1 with
  | some r => cond (Nat.beq r.1 len) (some ([(s.1 + len, s.2.1, r.2, s.2.2.2)], hs)) none
  | none => qO1 g i len s hs
noncomputable def qOne (cs : List qCt) (c : qCt) (K : Nat) (g : Nat) (e : pEn) (s : qS) (hs : qHs) : qRe := match qLoc (pMt K).2.2.2.1 e.2.1 s.2.1 s.2.2.1 with
  | some r => cond (Nat.beq r.1 e.2.2.1) (some ([(s.1 + e.2.2.1, r.2.1, r.2.2, s.2.2.2)], hs)) none
  | none => match qMd (cS c) e.2.1 e.2.2.2 s.2.2.1 s.2.2.2.1 s.2.2.2.2.1 s.2.2.2.2.2 hs with
    | some r => cond (Nat.beq r.1 e.2.2.1 && qScA g s.2.2.2.2.2 s.2.1 s.2.2.1 s.2.2.2.1 s.2.2.2.2.1) (some ([(s.1 + e.2.2.1, s.2.1, r.2.1, qPp s.2.2.2.1 r.2.2.1, r.2.2.2.1, r.2.2.2.2.1)], r.2.2.2.2.2)) none
    | none => match qXt e.2.1 e.2.2.2 s.2.2.1 with
     | some r => cond (Nat.beq r.1 e.2.2.1) (some ([(s.1 + e.2.2.1, s.2.1, r.2, s.2.2.2)], hs)) none
     | none => match qJp e.2.1 s.1 e.2.2.1 s.2.2.1 s.2.2.2.1 hs with
      | some r => some (r.1.map (fun q => (q.1, s.2.1, q.2.1, qPp s.2.2.2.1 q.2.2, s.2.2.2.2)), r.2)
      | none => cond (zInv e.2.1) (match hs with
          | t :: hs1 => (match qTch g s.2.1 t s.2.2.1 s.2.2.2.1 s.2.2.2.2.1 s.2.2.2.2.2 with
            | some q => (match qArg e.2.1 e.2.2.2 q.1 q.2.1 hs1 with
              | some r => (match qCall cs c (cS c) g (e.2.2.2 % 1000) r.1 r.2.1 s.2.1 q.2.1 q.2.2.1 q.2.2.2 r.2.2 with
                | some z => cond (Nat.beq e.2.2.1 3) (some (z.2.1.map (fun fs' => (s.1 + 3, s.2.1, z.1, fs', z.2.2.1, z.2.2.2.1)), z.2.2.2.2)) none
                | none => none)
              | none => none)
            | none => none)
          | [] => none)
        (cond (zRet e.2.1) (match hs with
            | t :: hs1 => (match qTch g s.2.1 t s.2.2.1 s.2.2.2.1 s.2.2.2.2.1 s.2.2.2.2.2 with
              | some q => (match qRet c (pMt K).2.2.2.2.1 e.2.1 e.2.2.1 q.1 q.2.1 q.2.2.1 hs1 with
                | some hs' => some ([], hs')
                | none => none)
              | none => none)
            | [] => none)
          (cond (zNeg e.2.1) (match hs with
              | [] :: hs1 => qO2 g e.2.1 e.2.2.1 s hs1
              | _ :: hs1 => qO1 g e.2.1 e.2.2.1 s hs1
              | [] => none)
            (qO2 g e.2.1 e.2.2.1 s hs)))
abbrev qGS (d K : Nat) (J : pHp) (Q : Option sV → sM → Prop) (M0 : sM) (S : sSt) (g : Nat) (ρ0 : Nat → Int) (s : qS) : Prop := qG d K J Q M0 S g ρ0 s.1 s.2.1 s.2.2.1 s.2.2.2.1 s.2.2.2.2.1
theorem qo1_ok (hg1 : 0 < g) {Q : Option sV → sM → Prop} {i : Instr} {pc len a : Nat} {s : qS} {hs hs' : qHs} {su : List qS} (hpc : s.1 = pc) (he : (pc, i, len, a) ∈ pTs.getD K []) (ha : a < 99999) (h : qO1 g i len s hs = some (su, hs')) (k : ∀ t ∈ su, qGS d K J Q M0 S g ρ0 t) : qGS d K J Q M0 S g ρ0 s := by
  subst hpc
  unfold qO1 at h
  split at h
  · rename_i r hr
    obtain ⟨h1, h2⟩ := zcond h
    cases h2
    rw [Bool.and_eq_true, Bool.and_eq_true] at h1
    have e1 := Nat.eq_of_beq_eq_true h1.1
    subst e1
    have k1 := k _ List.mem_cons_self
    have hn : 0 < s.2.2.2.2.2 := by have := (qsa h1.2.1).1; omega
    exact qg_hv hg1 r.1 he ha h1.2.1 (fun ρ h0 hf => qhv_ok hr hn h1.2.2 ρ h0 hf) k1
  · cases h
theorem qo2_ok (hg1 : 0 < g) {Q : Option sV → sM → Prop} {i : Instr} {pc len a : Nat} {s : qS} {hs hs' : qHs} {su : List qS} (hpc : s.1 = pc) (he : (pc, i, len, a) ∈ pTs.getD K []) (ha : a < 99999) (h : qO2 g i len s hs = some (su, hs')) (k : ∀ t ∈ su, qGS d K J Q M0 S g ρ0 t) : qGS d K J Q M0 S g ρ0 s := by
  unfold qO2 at h
  split at h
  · rename_i r hr
    subst hpc
    obtain ⟨h1, h2⟩ := zcond h
    cases h2
    have e1 := Nat.eq_of_beq_eq_true h1
    subst e1
    exact qg_st he ha (fun ρ h0 => qex_ok hr ρ h0) (k _ List.mem_cons_self)
  · exact qo1_ok hg1 hpc he ha h k
theorem qone_ok (hDd : ∀ ρ : Nat → Int, (∀ a, a < g → ρ a = ρ0 a) → (cD c : Int) + qD ρ (cE c) ≤ (d + 1 : Nat)) (hg1 : 0 < g) {cs : List qCt} (hcs : ∀ c ∈ cs, qCokN c d) (hcg : ∀ a, a < cG c → ρ0 a = ρc a) (hle : cG c ≤ g) {e : pEn} {s : qS} {hs hs' : qHs} {su : List qS} (hpc : e.1 = s.1) (he : e ∈ pTs.getD K []) (ha : e.2.2.2 < 99999) (h : qOne cs c K g e s hs = some (su, hs')) (k : ∀ t ∈ su, qGS d K J (qPost c ρc M0) M0 (cS c) g ρ0 t) : qGS d K J (qPost c ρc M0) M0 (cS c) g ρ0 s := by
  obtain ⟨pc, i, len, a⟩ := e
  have hpc : pc = s.1 := hpc
  subst hpc
  unfold qOne at h
  split at h
  · rename_i r hr
    obtain ⟨h1, h2⟩ := zcond h
    cases h2
    have e1 := Nat.eq_of_beq_eq_true h1
    have k1 := k _ List.mem_cons_self
    intro ρ M hg h0 hf hm hI hF
    refine sr_stp he ha rfl (Or.inr (Or.inl ⟨_, _, ?_, rfl⟩)) (k1 ρ M hg h0 hf hm hI hF)
    have := qloc_ok hr ρ h0
    rw [e1] at this
    exact this
  · split at h
    · rename_i r hr
      obtain ⟨h1, h2⟩ := zcond h
      cases h2
      rw [Bool.and_eq_true] at h1
      have e1 := Nat.eq_of_beq_eq_true h1.1
      exact qg_mem hg1 he ha h1.2 e1 (qmd_ok hr) (k _ List.mem_cons_self)
    · split at h
      next r hr =>
        obtain ⟨h1, h2⟩ := zcond h
        cases h2
        have e1 := Nat.eq_of_beq_eq_true h1
        have k1 := k _ List.mem_cons_self
        intro ρ M hg h0 hf hm hI hF
        refine sr_stp he ha rfl (Or.inr (Or.inr (Or.inr (Or.inl ⟨_, ?_, rfl⟩)))) (k1 ρ M hg h0 hf hm hI hF)
        have := qxt_ok hr ρ h0
        rw [e1] at this
        exact this
      split at h
      · rename_i r hr
        cases h
        intro ρ M hg h0 hf hm hI hF
        obtain ⟨z, hz, h1, h2⟩ := qjp_ok (a := a) hr h0 hf (pMt K) (sL (qDL ρ s.2.1)) (sHp sLay M ++ J)
        have k1 := k _ (List.mem_map_of_mem hz)
        exact sr_stp he ha rfl h1 (k1 ρ M hg h0 (fun f hf' => by
          rcases qpp_mem hf' with h | h
          · exact hf f h
          · exact h2 f h) hm hI hF)
      · cases hi : zInv i with
        | true =>
          have h := h
          dsimp only at h
          rw [hi, cond_true] at h
          split at h
          · split at h
            · rename_i q hq
              split at h
              · rename_i r hr
                split at h
                · rename_i z hz
                  obtain ⟨h1, h2⟩ := zcond h
                  cases h2
                  have e1 : len = 3 := Nat.eq_of_beq_eq_true h1
                  subst e1
                  exact qg_tch hg1 hq (qcall_ok hDd hg1 hcs he ha hr hz (fun fs' hfs => k _ (List.mem_map_of_mem hfs)))
                · cases h
              · cases h
            · cases h
          · cases h
        | false =>
          dsimp only at h
          rw [hi, cond_false] at h
          cases hi2 : zRet i with
          | true =>
            rw [hi2, cond_true] at h
            split at h
            · split at h
              · rename_i q hq
                split at h
                · rename_i hs2 hr
                  exact qg_tch hg1 hq (qret_ok he ha hcg hle hr)
                · cases h
              · cases h
            · cases h
          | false =>
            rw [hi2, cond_false] at h
            cases hi3 : zNeg i with
            | true =>
              rw [hi3, cond_true] at h
              split at h
              · exact qo2_ok hg1 rfl he ha h k
              · exact qo1_ok hg1 rfl he ha h k
              · cases h
            | false =>
              rw [hi3, cond_false] at h
              exact qo2_ok hg1 rfl he ha h k
end ONE
