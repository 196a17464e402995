/-! CUTS AND RUNS; A CONTRACT THAT IS CHECKED HOLDS. A cut: place, locals, stack, facts, memory, names, a number that falls from cut to cut. -/
abbrev qCu : Type := Nat × qLv × List qV × List qF × qMm × Nat × qF
noncomputable def qSj (g : Nat) (l : List qF) (a : Nat) : qF := cond (Nat.blt a g) [(1, a)] (qSg l (a - g))
noncomputable def qJm (c : qCt) (g : Nat) (μ : qF) (t : qCu) (s : qS) (hs : qHs) : Option qHs := match hs with
  | u :: hs1 => (match qTch g s.2.1 u s.2.2.1 s.2.2.2.1 s.2.2.2.2.1 s.2.2.2.2.2 with
    | some q => (match qEnts q.2.1 (qSub (qSub μ (qSb (qSj (cG c) (hs1.take (t.2.2.2.2.2.1 - cG c))) t.2.2.2.2.2.2)) (qCn 1) :: t.2.2.2.1.map (qSb (qSj (cG c) (hs1.take (t.2.2.2.2.2.1 - cG c))))) (hs1.drop (t.2.2.2.2.2.1 - cG c)) with
      | some hs2 => cond (t.2.1.all (fun p => qGet s.2.1 p.1 == some (p.2.1, qSb (qSj (cG c) (hs1.take (t.2.2.2.2.2.1 - cG c))) p.2.2)) && ((q.1 == t.2.2.1.map (fun v => (v.1, qSb (qSj (cG c) (hs1.take (t.2.2.2.2.2.1 - cG c))) v.2))) && t.2.2.2.2.1.all (fun p => Nat.blt p.2.1 1000 && qFe q.2.2.1 p.1 p.2.1 (qSb (qSj (cG c) (hs1.take (t.2.2.2.2.2.1 - cG c))) p.2.2)))) (some hs2) none
      | none => none)
    | none => none)
  | [] => none
/-- a cut is good below m -/
noncomputable def qCg (d K : Nat) (J : pHp) (c : qCt) (ρc : Nat → Int) (M0 : sM) (t : qCu) (m : Int) : Prop :=
  ∀ (ρ : Nat → Int) (M : sM), ρ 0 = 1 → (∀ a, a < cG c → ρ a = ρc a) → (∀ f ∈ t.2.2.2.1, 0 ≤ qD ρ f) → (∀ q ∈ t.2.2.2.2.1, M q.1 (zIx ρ q.2.1) = qD ρ q.2.2) → sI M → sF (cS c) M0 M → qD ρ t.2.2.2.2.2.2 < m → sR sLay d K J t.1 (qDL ρ t.2.1) (qDS ρ t.2.2.1) M (qPost c ρc M0)
section ONE
variable {d K : Nat} {J : pHp} {M0 : sM} {S : sSt} {g : Nat} {ρ0 ρc : Nat → Int} {c : qCt}
/-- which kind of instruction it is: 1 a local, 2 the heap and what lies outside it, 3 a jump -/
noncomputable def qKd (i : Instr) : Nat := match i with
  | .iload_n _ => 1
  | .iload _ => 1
  | .lload_n _ => 1
  | .lload _ => 1
  | .aload_n _ => 1
  | .aload _ => 1
  | .istore_n _ => 1
  | .istore _ => 1
  | .lstore_n _ => 1
  | .lstore _ => 1
  | .astore_n _ => 1
  | .astore _ => 1
  | .iinc _ _ => 1
  | .getfield _ => 2
  | .putfield _ => 2
  | .iaload => 2
  | .baload => 2
  | .laload => 2
  | .aaload => 2
  | .iastore => 2
  | .bastore => 2
  | .lastore => 2
  | .ldc _ => 2
  | .ldc_w _ => 2
  | .ldc2_w _ => 2
  | .arraylength => 2
  | .invokestatic _ => 2
  | .getstatic _ => 2
  | .goto _ => 3
  | .ifCond _ _ => 3
  | .if_icmp _ _ => 3
  | .tableswitch _ _ _ _ => 3
  | .lookupswitch _ _ => 3
  | .lcmp => 3
  | _ => 0
theorem zcn {α : Type} {b : Bool} {x : Option α} {r : α} (h : cond b x none = some r) : x = some r := by
  cases b with
  | true => exact h
  | false => cases h
/-- one instruction, looked at by its kind -/
noncomputable def qOnF (cs : List qCt) (c : qCt) (K : Nat) (g : Nat) (e : pEn) (s : qS) (hs : qHs) : qRe := match cond (Nat.beq (qKd e.2.1) 1) (qLoc (pMt K).2.2.2.1 e.2.1 s.2.1 s.2.2.1) none with
  | some r => cond (Nat.beq r.1 e.2.2.1) (some ([(s.1 + e.2.2.1, r.2.1, r.2.2, s.2.2.2)], hs)) none
  | none => match cond (Nat.beq (qKd e.2.1) 2) (qMd (cS c) e.2.1 e.2.2.2 s.2.2.1 s.2.2.2.1 s.2.2.2.2.1 s.2.2.2.2.2 hs) none with
    | some r => cond (Nat.beq r.1 e.2.2.1 && qScA g s.2.2.2.2.2 s.2.1 s.2.2.1 s.2.2.2.1 s.2.2.2.2.1) (some ([(s.1 + e.2.2.1, s.2.1, r.2.1, qPp s.2.2.2.1 r.2.2.1, r.2.2.2.1, r.2.2.2.2.1)], r.2.2.2.2.2)) none
    | none => match cond (Nat.beq (qKd e.2.1) 2) (qXt e.2.1 e.2.2.2 s.2.2.1) none with
     | some r => cond (Nat.beq r.1 e.2.2.1) (some ([(s.1 + e.2.2.1, s.2.1, r.2, s.2.2.2)], hs)) none
     | none => match cond (Nat.beq (qKd e.2.1) 3) (qJp e.2.1 s.1 e.2.2.1 s.2.2.1 s.2.2.2.1 hs) none with
      | some r => some (r.1.map (fun q => (q.1, s.2.1, q.2.1, qPp s.2.2.2.1 q.2.2, s.2.2.2.2)), r.2)
      | none => cond (zInv e.2.1) (match hs with
          | t :: hs1 => (match qTch g s.2.1 t s.2.2.1 s.2.2.2.1 s.2.2.2.2.1 s.2.2.2.2.2 with
            | some q => (match qArg e.2.1 e.2.2.2 q.1 q.2.1 hs1 with
              | some r => (match qCall cs c (cS c) g (e.2.2.2 % 1000) r.1 r.2.1 s.2.1 q.2.1 q.2.2.1 q.2.2.2 r.2.2 with
                | some z => cond (Nat.beq e.2.2.1 3) (some (z.2.1.map (fun fs' => (s.1 + 3, s.2.1, z.1, fs', z.2.2.1, z.2.2.2.1)), z.2.2.2.2)) none
                | none => none)
              | none => none)
            | none => none)
          | [] => none)
        (cond (zRet e.2.1) (match hs with
            | t :: hs1 => (match qTch g s.2.1 t s.2.2.1 s.2.2.2.1 s.2.2.2.2.1 s.2.2.2.2.2 with
              | some q => (match qRet c (pMt K).2.2.2.2.1 e.2.1 e.2.2.1 q.1 q.2.1 q.2.2.1 hs1 with
                | some hs' => some ([], hs')
                | none => none)
              | none => none)
            | [] => none)
          (cond (zNeg e.2.1) (match hs with
              | [] :: hs1 => qO2 g e.2.1 e.2.2.1 s hs1
              | _ :: hs1 => qO1 g e.2.1 e.2.2.1 s hs1
              | [] => none)
            (qO2 g e.2.1 e.2.2.1 s hs)))
theorem qonf_ok (hDd : ∀ ρ : Nat → Int, (∀ a, a < g → ρ a = ρ0 a) → (cD c : Int) + qD ρ (cE c) ≤ (d + 1 : Nat)) (hg1 : 0 < g) {cs : List qCt} (hcs : ∀ c ∈ cs, qCokN c d) (hcg : ∀ a, a < cG c → ρ0 a = ρc a) (hle : cG c ≤ g) {e : pEn} {s : qS} {hs hs' : qHs} {su : List qS} (hpc : e.1 = s.1) (he : e ∈ pTs.getD K []) (ha : e.2.2.2 < 99999) (h : qOnF cs c K g e s hs = some (su, hs')) (k : ∀ t ∈ su, qGS d K J (qPost c ρc M0) M0 (cS c) g ρ0 t) : qGS d K J (qPost c ρc M0) M0 (cS c) g ρ0 s := by
  obtain ⟨pc, i, len, a⟩ := e
  have hpc : pc = s.1 := hpc
  subst hpc
  unfold qOnF at h
  split at h
  · rename_i r hr
    obtain ⟨h1, h2⟩ := zcond h
    cases h2
    have e1 := Nat.eq_of_beq_eq_true h1
    have k1 := k _ List.mem_cons_self
    intro ρ M hg h0 hf hm hI hF
    refine sr_stp he ha rfl (Or.inr (Or.inl ⟨_, _, ?_, rfl⟩)) (k1 ρ M hg h0 hf hm hI hF)
    have := qloc_ok (zcn hr) ρ h0
    rw [e1] at this
    exact this
  · split at h
    · rename_i r hr
      obtain ⟨h1, h2⟩ := zcond h
      cases h2
      rw [Bool.and_eq_true] at h1
      have e1 := Nat.eq_of_beq_eq_true h1.1
      exact qg_mem hg1 he ha h1.2 e1 (qmd_ok (zcn hr)) (k _ List.mem_cons_self)
    · split at h
      next r hr =>
        obtain ⟨h1, h2⟩ := zcond h
        cases h2
        have e1 := Nat.eq_of_beq_eq_true h1
        have k1 := k _ List.mem_cons_self
        intro ρ M hg h0 hf hm hI hF
        refine sr_stp he ha rfl (Or.inr (Or.inr (Or.inr (Or.inl ⟨_, ?_, rfl⟩)))) (k1 ρ M hg h0 hf hm hI hF)
        have := qxt_ok (zcn hr) ρ h0
        rw [e1] at this
        exact this
      split at h
      · rename_i r hr
        cases h
        intro ρ M hg h0 hf hm hI hF
        obtain ⟨z, hz, h1, h2⟩ := qjp_ok (a := a) (zcn hr) h0 hf (pMt K) (sL (qDL ρ s.2.1)) (sHp sLay M ++ J)
        have k1 := k _ (List.mem_map_of_mem hz)
        exact sr_stp he ha rfl h1 (k1 ρ M hg h0 (fun f hf' => by
          rcases qpp_mem hf' with h | h
          · exact hf f h
          · exact h2 f h) hm hI hF)
      · cases hi : zInv i with
        | true =>
          have h := h
          dsimp only at h
          rw [hi, cond_true] at h
          split at h
          · split at h
            · rename_i q hq
              split at h
              · rename_i r hr
                split at h
                · rename_i z hz
                  obtain ⟨h1, h2⟩ := zcond h
                  cases h2
                  have e1 : len = 3 := Nat.eq_of_beq_eq_true h1
                  subst e1
                  exact qg_tch hg1 hq (qcall_ok hDd hg1 hcs he ha hr hz (fun fs' hfs => k _ (List.mem_map_of_mem hfs)))
                · cases h
              · cases h
            · cases h
          · cases h
        | false =>
          dsimp only at h
          rw [hi, cond_false] at h
          cases hi2 : zRet i with
          | true =>
            rw [hi2, cond_true] at h
            split at h
            · split at h
              · rename_i q hq
                split at h
                · rename_i hs2 hr
                  exact qg_tch hg1 hq (qret_ok he ha hcg hle hr)
                · cases h
              · cases h
            · cases h
          | false =>
            rw [hi2, cond_false] at h
            cases hi3 : zNeg i with
            | true =>
              rw [hi3, cond_true] at h
              split at h
              · exact qo2_ok hg1 rfl he ha h k
              · exact qo1_ok hg1 rfl he ha h k
              · cases h
            | false =>
              rw [hi3, cond_false] at h
              exact qo2_ok hg1 rfl he ha h k
end ONE
/-- the instruction at a place -/
noncomputable def qPc (l : List pEn) (pc : Nat) : Option pEn := List.rec (motive := fun _ => Option pEn) none (fun e _ ih => cond (Nat.beq e.1 pc) (some e) ih) l
theorem qpc_ok {pc : Nat} {e : pEn} : ∀ {l : List pEn}, qPc l pc = some e → e ∈ l ∧ Nat.beq e.1 pc = true
  | [], h => nomatch h
  | a :: l, h => by
    have h : cond (Nat.beq a.1 pc) (some a) (qPc l pc) = some e := h
    cases h1 : Nat.beq a.1 pc with
    | true =>
      rw [h1, cond_true] at h
      cases h
      exact ⟨List.mem_cons_self, h1⟩
    | false =>
      rw [h1, cond_false] at h
      have := qpc_ok h
      exact ⟨List.mem_cons_of_mem _ this.1, this.2⟩
section CHK
variable {d K : Nat} {J : pHp} {M0 : sM} {g : Nat} {ρ0 ρc : Nat → Int} {c : qCt}
theorem qjm_ok (hg1 : 0 < g) (hc1 : 0 < cG c) (hcg : ∀ a, a < cG c → ρ0 a = ρc a) (hle : cG c ≤ g) {μ : qF} {m : Int} (hμ : ∀ ρ : Nat → Int, (∀ a, a < g → ρ a = ρ0 a) → qD ρ μ = m) {t : qCu} (ht : qCg d K J c ρc M0 t m) {s : qS} (hpc : t.1 = s.1) {hs hs' : qHs} (h : qJm c g μ t s hs = some hs') : qGS d K J (qPost c ρc M0) M0 (cS c) g ρ0 s := by
  unfold qJm at h
  split at h
  · rename_i u hs1
    split at h
    · rename_i q hq
      split at h
      · rename_i hs2 hen
        obtain ⟨h1, h2⟩ := zcond h
        refine qg_tch hg1 hq ?_
        intro ρ M hg h0 hf hm hI hF
        generalize hs1.take (t.2.2.2.2.2.1 - cG c) = l at *
        rw [Bool.and_eq_true, Bool.and_eq_true] at h1
        obtain ⟨g1, g2, g3⟩ := h1
        have hσ : ∀ a, a < cG c → qD ρ (qSj (cG c) l a) = ρ a := by
          intro a ha
          unfold qSj
          rw [show Nat.blt a (cG c) = true from Nat.ble_eq_true_of_le ha, cond_true, qd_at]
          omega
        have hents := qents_ok h0 hf hen
        have h3 := ht (fun a => qD ρ (qSj (cG c) l a)) M ((hσ 0 hc1).trans h0) (fun a ha => (hσ a ha).trans ((hg a (by omega)).trans (hcg a ha))) (fun f hf' => by
          have := hents _ (List.mem_cons_of_mem _ (List.mem_map_of_mem hf'))
          rw [qd_sb] at this
          exact this) (fun p hp => by
          have h5 := List.all_eq_true.mp g3 p hp
          rw [Bool.and_eq_true] at h5
          have h6 := qfe_ok h5.2
          have h7 := qfind_ok hm h6
          rw [zix_b h5.1] at h7
          rw [zix_b h5.1, h7, qd_sb]) hI hF (by
          have := hents _ List.mem_cons_self
          rw [qd_sub, qd_sub, qd_cn h0, hμ ρ hg, qd_sb] at this
          omega)
        rw [hpc] at h3
        have est : qDS (fun a => qD ρ (qSj (cG c) l a)) t.2.2.1 = qDS ρ q.1 := by
          have e : q.1 = t.2.2.1.map (fun v => (v.1, qSb (qSj (cG c) l) v.2)) := eq_of_beq g2
          rw [e]
          unfold qDS
          rw [List.map_map]
          refine List.map_congr_left fun v _ => ?_
          show (v.1, qD _ v.2) = (v.1, qD ρ (qSb (qSj (cG c) l) v.2))
          rw [qd_sb]
        rw [est] at h3
        refine sr_mono (fun p hp => ?_) h3
        obtain ⟨p0, hp0, rfl⟩ := List.mem_map.mp hp
        have h5 := List.all_eq_true.mp g1 p0 hp0
        have h6 := eq_of_beq h5
        show sGet (qDL ρ s.2.1) p0.1 = some (qDV _ p0.2)
        rw [ql_get' h6]
        show some (p0.2.1, qD ρ (qSb (qSj (cG c) l) p0.2.2)) = some (p0.2.1, qD _ p0.2.2)
        rw [qd_sb]
      · cases h
    · cases h
  · cases h
noncomputable def qAll (r : qS → qHs → Option qHs) : List qS → qHs → Option qHs
  | [], hs => some hs
  | _ :: _, [] => none
  | s :: su, h :: hs => match h with
    | [] => (match r s hs with | some hs' => qAll r su hs' | none => none)
    | _ => cond (qEnt s.2.2.2.1 [(-1, 0)] h) (qAll r su hs) none
theorem qall_ok {Q : Option sV → sM → Prop} {S : sSt} {r : qS → qHs → Option qHs} (hr : ∀ s hs hs', r s hs = some hs' → qGS d K J Q M0 S g ρ0 s) : ∀ {su : List qS} {hs hs' : qHs}, qAll r su hs = some hs' → ∀ s ∈ su, qGS d K J Q M0 S g ρ0 s
  | [], _, _, _, s, h => nomatch h
  | _ :: _, [], _, h, _, _ => nomatch h
  | s :: su, a :: hs, hs', h, s', hm => by
    unfold qAll at h
    split at h
    · split at h
      · rename_i hs2 h2
        rcases List.mem_cons.mp hm with rfl | hm
        · exact hr _ _ _ h2
        · exact qall_ok hr h s' hm
      · cases h
    · cases h1 : qEnt s.2.2.2.1 [(-1, 0)] a with
      | false => rw [h1] at h; cases h
      | true =>
        rw [h1, cond_true] at h
        rcases List.mem_cons.mp hm with rfl | hm
        · exact qg_no h1
        · exact qall_ok hr h s' hm
noncomputable def zMk (pc : Nat) : qHs → Option (Bool × Nat × qHs)
  | [(.negSucc 6, j), (0, p)] :: hs => cond (Nat.beq p pc) (some (false, j, hs)) none
  | [(.negSucc 7, j), (0, p)] :: hs => cond (Nat.beq p pc) (some (true, j, hs)) none
  | _ => none
noncomputable def zNm (pc : Nat) : qHs → Option (Nat × qHs)
  | [(.negSucc 8, j), (0, p)] :: hs => cond (Nat.beq p pc) (some (j, hs)) none
  | _ => none
noncomputable def zPn (pc : Nat) : qHs → Option (Nat × Int × qF × qF × qHs)
  | [(.negSucc 9, j), (0, p)] :: [(k, 0)] :: a :: b :: hs => cond (Nat.beq p pc) (some (j, k, a, b, hs)) none
  | _ => none
noncomputable def zFn (pc : Nat) : qHs → Option (Nat × qHs)
  | [(.negSucc 10, j), (0, p)] :: hs => cond (Nat.beq p pc) (some (j, hs)) none
  | _ => none
noncomputable def zBr (pc : Nat) : qHs → Option qHs
  | [(.negSucc 11, _), (0, p)] :: hs => cond (Nat.beq p pc) (some hs) none
  | _ => none
/-- two ways, by a number that is below 0 or isn't -/
noncomputable def zSp (pc : Nat) : qHs → Option (qF × qHs)
  | [(.negSucc 12, _), (0, p)] :: f :: hs => cond (Nat.beq p pc) (some (f, hs)) none
  | _ => none
/-- what lies at a place, by another form -/
noncomputable def zSm (pc : Nat) : qHs → Option (Nat × Nat × qF × qF × qF × qHs)
  | [(.negSucc 13, k), (0, p)] :: [(o, 0)] :: f :: a :: b :: hs => cond (Nat.beq p pc) (some (o.toNat, k, f, a, b, hs)) none
  | _ => none
/-- does a row of hints begin with a mark -/
noncomputable def zHd : qHs → Bool
  | (q :: _) :: _ => zNg q.1
  | _ => false
noncomputable def qRun (cs : List qCt) (c : qCt) (K g : Nat) (cu : List qCu) (cp : List Nat) (μ : qF) : Nat → Bool → qS → qHs → Option qHs
  | 0, _, _, _ => none
  | f + 1, b, s, hs => match cond (zHd hs) (zMk s.1 hs) none with
    | some m => (match qRT[m.2.1]? with
      | some r => cond m.1 (match qPc (pTs.getD K []) s.1 with
          | some e => cond (Nat.blt e.2.2.2 99999) (match qWv r g (cS c) e.2.1 e.2.2.2 s.2.1 s.2.2.1 s.2.2.2.1 s.2.2.2.2.1 s.2.2.2.2.2 m.2.2 with
            | some q => cond (Nat.beq q.1 e.2.2.1) (qRun cs c K g cu cp μ f false (s.1 + e.2.2.1, s.2.1, q.2.1, q.2.2.1, q.2.2.2.1, q.2.2.2.2.1) q.2.2.2.2.2) none
            | none => none) none
          | none => none)
        (match r.2.2.2.1 with
          | [] => (match qRa r g (cS c) s.2.1 s.2.2.1 s.2.2.2.1 s.2.2.2.2.1 s.2.2.2.2.1 s.2.2.2.2.2 m.2.2 with
            | some q => qRun cs c K g cu cp μ f b (s.1, s.2.1, s.2.2.1, q.1, q.2.1, q.2.2.1) q.2.2.2
            | none => none)
          | _ => none)
      | none => none)
    | none => match cond (zHd hs) (zNm s.1 hs) none with
     | some m => (match qTch g s.2.1 [(.negSucc 0, m.1)] s.2.2.1 s.2.2.2.1 s.2.2.2.2.1 s.2.2.2.2.2 with
       | some q => qRun cs c K g cu cp μ f b (s.1, s.2.1, q.1, q.2.1, q.2.2.1, q.2.2.2) m.2
       | none => none)
     | none => match cond (zHd hs) (zPn s.1 hs) none with
      | some m => (match s.2.2.1[m.1]? with
        | some v => cond (qEnt s.2.2.2.1 (qSub v.2 (qCn m.2.1)) m.2.2.1 && qEnt s.2.2.2.1 (qSub (qCn m.2.1) v.2) m.2.2.2.1) (qRun cs c K g cu cp μ f b (s.1, s.2.1, s.2.2.1.set m.1 (v.1, qCn m.2.1), s.2.2.2) m.2.2.2.2) none
        | none => none)
      | none => match cond (zHd hs) (zFn s.1 hs) none with
      | some m => (match qPc (pTs.getD K []) s.1 with
        | some e => cond (Nat.blt e.2.2.2 99999) (match qFn e.2.1 e.2.2.1 s m.1 m.2 with
          | some r => qRun cs c K g cu cp μ f false r.1 r.2
          | none => none) none
        | none => none)
      | none => match cond (zHd hs) (zBr s.1 hs) none with
      | some hs1 => (match qPc (pTs.getD K []) s.1 with
        | some e => cond (Nat.blt e.2.2.2 99999) (match qBm e.2.1 e.2.2.1 s hs1 with
          | some r => qAll (qRun cs c K g cu cp μ f false) r.1 r.2
          | none => none) none
        | none => none)
      | none => match cond (zHd hs) (zSp s.1 hs) none with
      | some m => qAll (qRun cs c K g cu cp μ f b) [(s.1, s.2.1, s.2.2.1, qPp s.2.2.2.1 [m.1], s.2.2.2.2), (s.1, s.2.1, s.2.2.1, qPp s.2.2.2.1 [qSub (qCn (-1)) m.1], s.2.2.2.2)] m.2
      | none => match cond (zHd hs) (zSm s.1 hs) none with
      | some m => (match qFind s.2.2.2.2.1 m.1 m.2.1 with
        | some h => cond (qEnt s.2.2.2.1 (qSub h m.2.2.1) m.2.2.2.1 && qEnt s.2.2.2.1 (qSub m.2.2.1 h) m.2.2.2.2.1) (qRun cs c K g cu cp μ f b (s.1, s.2.1, s.2.2.1, s.2.2.2.1, (m.1, m.2.1, m.2.2.1) :: s.2.2.2.2.1, s.2.2.2.2.2) m.2.2.2.2.2) none
        | none => none)
      | none => match cond b false (cp.any (fun p => Nat.beq p s.1)) with
      | true => (match hs with
        | [(j, 0)] :: hs1 => (match cu[j.toNat]? with
          | some t => cond (Nat.beq t.1 s.1) (qJm c g μ t s hs1) none
          | none => none)
        | _ => none)
      | false => match qPc (pTs.getD K []) s.1 with
        | some e => cond (Nat.blt e.2.2.2 99999) (match qOnF cs c K g e s hs with
          | some r => (match r.1 with
            | [s'] => qRun cs c K g cu cp μ f false s' r.2
            | su => qAll (qRun cs c K g cu cp μ f false) su r.2)
          | none => none) none
        | none => none
theorem qrun_ok (hDd : ∀ ρ : Nat → Int, (∀ a, a < g → ρ a = ρ0 a) → (cD c : Int) + qD ρ (cE c) ≤ (d + 1 : Nat)) (hg1 : 0 < g) (hc1 : 0 < cG c) {cs : List qCt} (hcs : ∀ c ∈ cs, qCokN c d) (hcg : ∀ a, a < cG c → ρ0 a = ρc a) (hle : cG c ≤ g) {cu : List qCu} {cp : List Nat} {μ : qF} {m : Int} (hμ : ∀ ρ : Nat → Int, (∀ a, a < g → ρ a = ρ0 a) → qD ρ μ = m) (ht : ∀ t ∈ cu, qCg d K J c ρc M0 t m) : ∀ (f : Nat) (b : Bool) (s : qS) (hs hs' : qHs), qRun cs c K g cu cp μ f b s hs = some hs' → qGS d K J (qPost c ρc M0) M0 (cS c) g ρ0 s := by
  intro f
  induction f with
  | zero => intro b s hs hs' h; cases h
  | succ f ih =>
    intro b s hs hs' h
    unfold qRun at h
    split at h
    · rename_i m hmk
      split at h
      · rename_i r hj
        have hrk := qrt_ok r (List.mem_of_getElem? hj)
        cases hm1 : m.1 with
        | true =>
          rw [hm1, cond_true] at h
          split at h
          · rename_i e he
            have h1 := (qpc_ok he).2
            have hpc : e.1 = s.1 := Nat.eq_of_beq_eq_true h1
            cases ha : Nat.blt e.2.2.2 99999 with
            | false => rw [ha] at h; cases h
            | true =>
              rw [ha, cond_true] at h
              split at h
              · rename_i q hq
                cases hl : Nat.beq q.1 e.2.2.1 with
                | false => rw [hl] at h; cases h
                | true =>
                  rw [hl, cond_true] at h
                  have k1 := ih _ _ _ _ h
                  have he2 := (qpc_ok he).1
                  obtain ⟨pc, i, len, a⟩ := e
                  have hpc : pc = s.1 := hpc
                  subst hpc
                  exact qwv_ok hg1 hrk he2 (zblt ha) hq (Nat.eq_of_beq_eq_true hl) k1
              · cases h
          · cases h
        | false =>
          rw [hm1, cond_false] at h
          split at h
          · rename_i hw
            split at h
            · rename_i q hq
              exact qg_rul hg1 hrk hw hq (ih _ _ _ _ h)
            · cases h
          · cases h
      · cases h
    · split at h
      next m hnm =>
        split at h
        · rename_i q hq
          exact qg_tch hg1 hq (ih _ _ _ _ h)
        · cases h
      split at h
      next m hpn =>
        split at h
        · rename_i v hv
          cases h1 : (qEnt s.2.2.2.1 (qSub v.2 (qCn m.2.1)) m.2.2.1 && qEnt s.2.2.2.1 (qSub (qCn m.2.1) v.2) m.2.2.2.1) with
          | false => rw [h1] at h; cases h
          | true =>
            rw [h1, cond_true] at h
            rw [Bool.and_eq_true] at h1
            have k1 := ih _ _ _ _ h
            intro ρ M hg h0 hf hm hI hF
            have a1 := qd_ent h0 hf h1.1
            have a2 := qd_ent h0 hf h1.2
            rw [qd_sub, qd_cn h0] at a1 a2
            have k2 := k1 ρ M hg h0 hf hm hI hF
            have e : qDS ρ (s.2.2.1.set m.1 (v.1, qCn m.2.1)) = qDS ρ s.2.2.1 := by
              unfold qDS
              rw [List.map_set]
              refine List.ext_getElem? fun j => ?_
              by_cases hj : m.1 = j
              · subst hj
                have hlt : m.1 < (s.2.2.1.map (qDV ρ)).length := by rw [List.length_map]; exact (List.getElem?_eq_some_iff.mp hv).1
                rw [List.getElem?_set_self hlt, List.getElem?_map, hv]
                show some (v.1, qD ρ (qCn m.2.1)) = some (v.1, qD ρ v.2)
                rw [qd_cn h0, show m.2.1 = qD ρ v.2 by omega]
              · rw [List.getElem?_set_ne hj]
            have k3 : sR sLay d K J s.1 (qDL ρ s.2.1) (qDS ρ (s.2.2.1.set m.1 (v.1, qCn m.2.1))) M (qPost c ρc M0) := k2
            rw [e] at k3
            exact k3
        · cases h
      split at h
      next m hfn =>
        split at h
        · rename_i e he
          have h1 := (qpc_ok he).2
          have hpc : e.1 = s.1 := Nat.eq_of_beq_eq_true h1
          cases ha : Nat.blt e.2.2.2 99999 with
          | false => rw [ha] at h; cases h
          | true =>
            rw [ha, cond_true] at h
            split at h
            · rename_i r hr
              have he2 := (qpc_ok he).1
              obtain ⟨pc, i, len, a⟩ := e
              have hpc : pc = s.1 := hpc
              subst hpc
              exact qfn_ok (s' := r.1) (hs' := r.2) he2 (zblt ha) hr (ih _ _ _ _ h)
            · cases h
        · cases h
      split at h
      next hs1 hbr =>
        split at h
        · rename_i e he
          have h1 := (qpc_ok he).2
          have hpc : e.1 = s.1 := Nat.eq_of_beq_eq_true h1
          cases ha : Nat.blt e.2.2.2 99999 with
          | false => rw [ha] at h; cases h
          | true =>
            rw [ha, cond_true] at h
            split at h
            · rename_i r hr
              have he2 := (qpc_ok he).1
              obtain ⟨pc, i, len, a⟩ := e
              have hpc : pc = s.1 := hpc
              subst hpc
              exact qbm_ok (su := r.1) (hs' := r.2) he2 (zblt ha) hr (qall_ok (fun s hs hs' h => ih _ _ _ _ h) h)
            · cases h
        · cases h
      split at h
      next m hsp =>
        have hall := qall_ok (fun s hs hs' h => ih _ _ _ _ h) h
        have k1 := hall _ List.mem_cons_self
        have k2 := hall _ (List.mem_cons_of_mem _ List.mem_cons_self)
        intro ρ M hg h0 hf hm hI hF
        by_cases hc : 0 ≤ qD ρ m.1
        · exact k1 ρ M hg h0 (fun f hf' => by
            rcases qpp_mem hf' with hf' | hf'
            · exact hf f hf'
            · rw [List.mem_singleton.mp hf']; exact hc) hm hI hF
        · exact k2 ρ M hg h0 (fun f hf' => by
            rcases qpp_mem hf' with hf' | hf'
            · exact hf f hf'
            · rw [List.mem_singleton.mp hf', qd_sub, qd_cn h0]; omega) hm hI hF
      split at h
      next m hsm =>
        split at h
        · rename_i v hv
          cases h1 : (qEnt s.2.2.2.1 (qSub v m.2.2.1) m.2.2.2.1 && qEnt s.2.2.2.1 (qSub m.2.2.1 v) m.2.2.2.2.1) with
          | false => rw [h1] at h; cases h
          | true =>
            rw [h1, cond_true] at h
            rw [Bool.and_eq_true] at h1
            have k1 := ih _ _ _ _ h
            intro ρ M hg h0 hf hm hI hF
            have a1 := qd_ent h0 hf h1.1
            have a2 := qd_ent h0 hf h1.2
            rw [qd_sub] at a1 a2
            refine k1 ρ M hg h0 hf (fun q hq => ?_) hI hF
            rcases List.mem_cons.mp hq with rfl | hq
            · have e := qfind_ok hm hv
              show M m.1 (zIx ρ m.2.1) = qD ρ m.2.2.1
              rw [e]; omega
            · exact hm q hq
        · cases h
      split at h
      · split at h
        · split at h
          · rename_i t hj
            cases h1 : Nat.beq t.1 s.1 with
            | false => rw [h1] at h; cases h
            | true =>
              rw [h1, cond_true] at h
              exact qjm_ok hg1 hc1 hcg hle hμ (ht t (List.mem_of_getElem? hj)) (Nat.eq_of_beq_eq_true h1) h
          · cases h
        · cases h
      · split at h
        · rename_i e he
          have h1 := (qpc_ok he).2
          cases ha : Nat.blt e.2.2.2 99999 with
          | false => rw [ha] at h; cases h
          | true =>
            rw [ha, cond_true] at h
            split at h
            · rename_i r hr
              obtain ⟨su, hs2⟩ := r
              refine qonf_ok hDd hg1 hcs hcg hle (Nat.eq_of_beq_eq_true h1) ((qpc_ok he).1) (zblt ha) hr ?_
              split at h
              · rename_i s' hsu
                have hsu : su = [s'] := hsu
                subst hsu
                intro t' ht'
                rcases List.mem_cons.mp ht' with rfl | ht'
                · exact ih _ _ _ _ h
                · cases ht'
              · exact qall_ok (fun s hs hs' h => ih _ _ _ _ h) h
            · cases h
        · cases h
noncomputable def qAg : Nat → List qV → qLv
  | _, [] => []
  | i, v :: vs => (i, v) :: qAg (i + cond (Nat.beq v.1 1) 2 1) vs
theorem qag_ok (ρ : Nat → Int) : ∀ (as : List qV) (i : Nat), sArgs i (qDS ρ as) = qDL ρ (qAg i as)
  | [], _ => rfl
  | v :: vs, i => by
    show (i, qDV ρ v) :: sArgs (i + (if v.1 = 1 then 2 else 1)) (qDS ρ vs) = (i, qDV ρ v) :: qDL ρ (qAg (i + cond (Nat.beq v.1 1) 2 1) vs)
    have e : (if v.1 = 1 then 2 else 1) = cond (Nat.beq v.1 1) 2 1 := by
      cases h : Nat.beq v.1 1 with
      | true => rw [if_pos (Nat.eq_of_beq_eq_true h)]; rfl
      | false => rw [if_neg (Nat.ne_of_beq_eq_false h)]; rfl
    rw [e, qag_ok ρ vs]
theorem qsl_len (ρ : Nat → Int) : ∀ (as : List qV), (lg_sl ((qDS ρ as).map sE)).length = qCat as
  | [] => rfl
  | v :: vs => by
    have ih := qsl_len ρ vs
    unfold lg_sl at ih ⊢
    show (List.flatMap _ (sE (qDV ρ v) :: (qDS ρ vs).map sE)).length = _
    rw [List.flatMap_cons, List.length_append, ih]
    have e : qCat (v :: vs) = cond (Nat.beq v.1 1) 2 1 + qCat vs := by
      unfold qCat
      rw [List.map_cons, List.sum_cons]
    rw [e]
    cases h : Nat.beq v.1 1 with
    | true =>
      have h2 : (sE (qDV ρ v)).category = 2 := by rw [se_cat2]; exact if_pos (Nat.eq_of_beq_eq_true h)
      rw [if_pos h2]; rfl
    | false =>
      have h2 : ¬ (sE (qDV ρ v)).category = 2 := by
        rw [se_cat2]
        show ¬ (if v.1 = 1 then 2 else 1) = 2
        rw [if_neg (Nat.ne_of_beq_eq_false h)]
        decide
      rw [if_neg h2]; rfl
/-- what shows a contract: how long a run may be, the number at the start, what shows that its depth isn't below 0, hints; the cuts, each with what shows that its number isn't below 0, and hints -/
abbrev qCe : Type := (Nat × List Nat) × Int × qF × qHs × List (qCu × qF × qHs)
noncomputable def qChk (cs : List qCt) (c : qCt) (ce : qCe) : Bool :=
  Nat.blt 0 (cG c) && (Nat.blt 0 (cD c) && (Nat.ble (qCat (cA c)) (pMt (cK c)).2.2.2.1 && ((cM c).all (fun q => Nat.blt q.2.1 1000) && ((qEnt (cP c) (cE c) ce.2.2.1 && qSc (cG c) (cE c)) &&
  ((qRun cs c (cK c) (cG c) (ce.2.2.2.2.map (fun q => q.1)) ce.1.2 (qCn ce.2.1) ce.1.1 true (0, qAg 0 (cA c), [], cP c, cM c, cG c) ce.2.2.2.1 == some []) &&
  ce.2.2.2.2.all (fun q => Nat.ble (cG c) q.1.2.2.2.2.2.1 && (qSc q.1.2.2.2.2.2.1 q.1.2.2.2.2.2.2 && (qEnt q.1.2.2.2.1 q.1.2.2.2.2.2.2 q.2.1 &&
    (qRun cs c (cK c) q.1.2.2.2.2.2.1 (ce.2.2.2.2.map (fun q => q.1)) ce.1.2 q.1.2.2.2.2.2.2 ce.1.1 true (q.1.1, q.1.2.1, q.1.2.2.1, q.1.2.2.2.1, q.1.2.2.2.2.1, q.1.2.2.2.2.2.1) q.2.2 == some [])))))))))
theorem qchk_n {cs : List qCt} {c : qCt} {ce : qCe} (h : qChk cs c ce = true) {d : Nat} (hcs : ∀ c ∈ cs, qCokN c d) : qCokN c (d + 1) := by
  unfold qChk at h
  rw [Bool.and_eq_true, Bool.and_eq_true, Bool.and_eq_true, Bool.and_eq_true, Bool.and_eq_true, Bool.and_eq_true, Bool.and_eq_true] at h
  obtain ⟨h1, h2, h3, h9, ⟨h10, h11⟩, h4, h5⟩ := h
  have hc1 : 0 < cG c := zblt h1
  intro J ρc M0 h0 hP hM hI hDep
  have hrun := eq_of_beq h4
  generalize hcu : ce.2.2.2.2.map (fun q => q.1) = cu at *
  have hcut : ∀ N : Nat, ∀ t ∈ cu, qCg d (cK c) J c ρc M0 t (N : Int) := by
    intro N
    induction N with
    | zero =>
      intro t ht ρ M h0' hg hf hm hI hF hlt
      rw [← hcu] at ht
      obtain ⟨q, hq, rfl⟩ := List.mem_map.mp ht
      have h6 := List.all_eq_true.mp h5 q hq
      rw [Bool.and_eq_true, Bool.and_eq_true, Bool.and_eq_true] at h6
      have := qd_ent h0' hf h6.2.2.1
      exact absurd hlt (by omega)
    | succ N ih =>
      intro t ht ρ M h0' hg hf hm hI hF hlt
      by_cases hN : qD ρ t.2.2.2.2.2.2 < (N : Int)
      · exact ih t ht ρ M h0' hg hf hm hI hF hN
      · have ht' := ht
        rw [← hcu] at ht
        obtain ⟨q, hq, rfl⟩ := List.mem_map.mp ht
        have h6 := List.all_eq_true.mp h5 q hq
        rw [Bool.and_eq_true, Bool.and_eq_true, Bool.and_eq_true] at h6
        obtain ⟨g1, g2, g3, g4⟩ := h6
        have hle := Nat.le_of_ble_eq_true g1
        have hr := eq_of_beq g4
        have hμ : qD ρ q.1.2.2.2.2.2.2 = (N : Int) := by omega
        exact qrun_ok (fun ρ' hρ' => by
          rw [qd_sc (ρ := ρc) (n := cG c) (fun a ha => (hρ' a (by omega)).trans (hg a ha)) h11]
          exact hDep) (by omega) hc1 hcs hg hle (fun ρ' hρ' => (qd_sc hρ' g2).trans hμ) ih _ _ _ _ _ hr ρ M (fun _ _ => rfl) h0' hf hm hI hF
  have hB : ∀ t ∈ cu, qCg d (cK c) J c ρc M0 t ce.2.1 := by
    intro t ht ρ M h0' hg hf hm hI hF hlt
    exact hcut ((qD ρ t.2.2.2.2.2.2).toNat + 1) t ht ρ M h0' hg hf hm hI hF (by omega)
  have hr := qrun_ok (fun ρ' hρ' => by
    rw [qd_sc (ρ := ρc) (n := cG c) hρ' h11]
    exact hDep) hc1 hc1 hcs (fun _ _ => rfl) (Nat.le_refl _) (m := ce.2.1) (fun ρ hρ => qd_cn ((hρ 0 hc1).trans h0) _) hB _ _ _ _ _ hrun ρc M0 (fun _ _ => rfl) h0 hP (fun q hq => by rw [zix_b (List.all_eq_true.mp h9 q hq)]; exact hM q hq) hI (sf_r _ _)
  refine sx_of ?_ ?_
  · rw [qsl_len]
    exact Nat.le_of_ble_eq_true h3
  · rw [qag_ok]
    exact hr
theorem qchk_0 {cs : List qCt} {c : qCt} {ce : qCe} (h : qChk cs c ce = true) : qCokN c 0 := by
  unfold qChk at h
  rw [Bool.and_eq_true, Bool.and_eq_true, Bool.and_eq_true, Bool.and_eq_true, Bool.and_eq_true, Bool.and_eq_true, Bool.and_eq_true] at h
  obtain ⟨h1, h2, h3, h9, ⟨h10, h11⟩, h4, h5⟩ := h
  intro J ρc M0 h0 hP hM hI hDep
  have h6 := qd_ent h0 hP h10
  have h7 : 0 < cD c := zblt h2
  exact absurd hDep (by omega)
theorem qchk_ok {cs : List qCt} {c : qCt} {ce : qCe} (hcs : ∀ c ∈ cs, qCok c) (h : qChk cs c ce = true) : qCok c := by
  intro N
  cases N with
  | zero => exact qchk_0 h
  | succ d => exact qchk_n h (fun c hc => hcs c hc d)
/-- methods that call one another: each is shown over all of them -/
theorem qchk_rec {cs : List qCt} {G : List (qCt × qCe)} (hcs : ∀ c ∈ cs, qCok c) (h : ∀ q ∈ G, qChk (cs ++ G.map (fun q => q.1)) q.1 q.2 = true) : ∀ q ∈ G, qCok q.1 := by
  have key : ∀ N, ∀ q ∈ G, qCokN q.1 N := by
    intro N
    induction N with
    | zero => exact fun q hq => qchk_0 (h q hq)
    | succ d ih =>
      intro q hq
      refine qchk_n (h q hq) (fun c hc => ?_)
      rcases List.mem_append.mp hc with hc | hc
      · exact hcs c hc d
      · obtain ⟨p, hp, rfl⟩ := List.mem_map.mp hc
        exact ih p hp
  exact fun q hq N => key N q hq
end CHK
