/-! JUMPS, SWITCHES AND LCMP: what they may lead to. -/
noncomputable def qTs (pc : Nat) (x : qF) (r : List qV) : Int → List Int → Option qSu
  | _, [] => some []
  | v, o :: os => match pTo pc o, qTs pc x r (v + 1) os with
    | some t, some l => some ((t, r, [qSub x (qCn v), qSub (qCn v) x]) :: l)
    | _, _ => none
noncomputable def qLs (pc : Nat) (x : qF) (r : List qV) : List (Int × Int) → Option qSu
  | [] => some []
  | q :: os => match pTo pc q.2, qLs pc x r os with
    | some t, some l => some ((t, r, [qSub x (qCn q.1), qSub (qCn q.1) x]) :: l)
    | _, _ => none
/-- where none of the keys is: between them -/
noncomputable def qLb (x : qF) : Option Int → List qF
  | none => []
  | some b => [qSub x (qCn (b + 1))]
noncomputable def qLd (t : Nat) (r : List qV) (x : qF) : Option Int → List (Int × Int) → qSu
  | lb, [] => [(t, r, qLb x lb)]
  | lb, q :: os => (t, r, qSub (qCn (q.1 - 1)) x :: qLb x lb) :: qLd t r x (some q.1) os
noncomputable def qLng (fs : List qF) (x : qF) (a b : qF) : Bool := qEnt fs (qAdd x (qCn 9223372036854775808)) a && qEnt fs (qSub (qCn 9223372036854775807) x) b
noncomputable def qJp (i : Instr) (pc len : Nat) (st : List qV) (fs : List qF) (hs : qHs) : Option (qSu × qHs) := match i with
  | .goto off => match pTo pc off with
    | some t => cond (Nat.beq len 3) (some ([(t, st, [])], hs)) none
    | none => none
  | .ifCond c off => match st with
    | (0, x) :: r => (match pTo pc off with
      | some t => cond (Nat.beq len 3) (qBr c x [] t (pc + 3) r fs hs) none
      | none => none)
    | _ => none
  | .if_icmp c off => match st with
    | (0, y) :: (0, x) :: r => (match pTo pc off with
      | some t => cond (Nat.beq len 3) (qBr c x y t (pc + 3) r fs hs) none
      | none => none)
    | _ => none
  | .tableswitch d lo hi offs => match st with
    | (0, x) :: r => (match hs with
      | [(1, 0)] :: a :: b :: u => cond (qInt fs x a b && !(zNg ((offs.size : Int) - 1 - (hi - lo)))) (match pTo pc d, qTs pc x r lo offs.toList with
        | some t, some l => some ((t, r, [qSub (qCn (lo - 1)) x]) :: (t, r, [qSub x (qCn (hi + 1))]) :: l, u)
        | _, _ => none) none
      | _ => none)
    | _ => none
  | .lookupswitch d ps => match st with
    | (0, x) :: r => (match hs with
      | [(1, 0)] :: a :: b :: u => cond (qInt fs x a b && (ps.toList.zip (ps.toList.drop 1)).all (fun (a, next) => a.1 < next.1)) (match pTo pc d, qLs pc x r ps.toList with
        | some t, some l => some (qLd t r x none ps.toList ++ l, u)
        | _, _ => none) none
      | _ => none)
    | _ => none
  | .lcmp => match st with
    | (1, y) :: (1, x) :: r => cond (Nat.beq len 1) (match hs with
      | [] :: u => some ([(pc + 1, (0, qCn (-1)) :: r, []), (pc + 1, (0, qCn 0) :: r, []), (pc + 1, (0, qCn 1) :: r, [])], u)
      | [(1, 0)] :: a :: b :: a' :: b' :: u => cond (qLng fs x a b && qLng fs y a' b') (some ([(pc + 1, (0, qCn (-1)) :: r, [qSub (qSub y x) (qCn 1)]), (pc + 1, (0, qCn 0) :: r, [qSub x y, qSub y x]), (pc + 1, (0, qCn 1) :: r, [qSub (qSub x y) (qCn 1)])], u)) none
      | _ => none) none
    | _ => none
  | _ => none
theorem qts_mem {pc : Nat} {x : qF} {r : List qV} : ∀ {os : List Int} {v : Int} {l : qSu}, qTs pc x r v os = some l → ∀ (j : Nat) (o : Int), os[j]? = some o → ∃ t, pTo pc o = some t ∧ (t, r, [qSub x (qCn (v + j)), qSub (qCn (v + j)) x]) ∈ l
  | [], v, l, h, j, o, hj => by simp at hj
  | o' :: os, v, l, h, j, o, hj => by
    unfold qTs at h
    split at h
    · rename_i t l' h1 h2
      cases h
      cases j with
      | zero =>
        cases hj
        refine ⟨t, h1, ?_⟩
        rw [show v + ((0 : Nat) : Int) = v by omega]
        exact List.mem_cons_self
      | succ j =>
        obtain ⟨t', h3, h4⟩ := qts_mem h2 j o hj
        refine ⟨t', h3, List.mem_cons_of_mem _ ?_⟩
        rw [show v + ((j + 1 : Nat) : Int) = v + 1 + j by omega]
        exact h4
    · cases h
theorem qls_off {pc : Nat} {x : qF} {r : List qV} {d k : Int} : ∀ {os : List (Int × Int)} {l : qSu}, qLs pc x r os = some l → Op.lookupswitch.offset os d k = d ∨ ∃ t, pTo pc (Op.lookupswitch.offset os d k) = some t ∧ (t, r, [qSub x (qCn k), qSub (qCn k) x]) ∈ l
  | [], l, h => Or.inl rfl
  | q :: os, l, h => by
    unfold qLs at h
    split at h
    · rename_i t l' h1 h2
      cases h
      obtain ⟨a, o⟩ := q
      rw [Op.lookupswitch.offset_cons]
      by_cases ha : a = k
      · rw [if_pos ha]
        subst ha
        exact Or.inr ⟨t, h1, List.mem_cons_self⟩
      · rw [if_neg ha]
        rcases qls_off (d := d) (k := k) h2 with h3 | ⟨t', h3, h4⟩
        · exact Or.inl h3
        · exact Or.inr ⟨t', h3, List.mem_cons_of_mem _ h4⟩
    · cases h
theorem qls_key {pc : Nat} {x : qF} {r : List qV} {d k : Int} : ∀ {os : List (Int × Int)} {l : qSu}, qLs pc x r os = some l → (∀ q ∈ os, q.1 ≠ k) ∨ ∃ t, pTo pc (Op.lookupswitch.offset os d k) = some t ∧ (t, r, [qSub x (qCn k), qSub (qCn k) x]) ∈ l
  | [], l, h => Or.inl (fun _ h => nomatch h)
  | q :: os, l, h => by
    unfold qLs at h
    split at h
    · rename_i t l' h1 h2
      cases h
      obtain ⟨a, o⟩ := q
      rw [Op.lookupswitch.offset_cons]
      by_cases ha : a = k
      · rw [if_pos ha]
        subst ha
        exact Or.inr ⟨t, h1, List.mem_cons_self⟩
      · rw [if_neg ha]
        rcases qls_key (d := d) (k := k) h2 with h3 | ⟨t', h3, h4⟩
        · refine Or.inl (fun q hq => ?_)
          rcases List.mem_cons.mp hq with rfl | hq
          · exact ha
          · exact h3 q hq
        · exact Or.inr ⟨t', h3, List.mem_cons_of_mem _ h4⟩
    · cases h
theorem qls_no {d k : Int} : ∀ {os : List (Int × Int)}, (∀ q ∈ os, q.1 ≠ k) → Op.lookupswitch.offset os d k = d
  | [], _ => rfl
  | (a, o) :: os, h => by
    rw [Op.lookupswitch.offset_cons, if_neg (h (a, o) List.mem_cons_self)]
    exact qls_no (fun q hq => h q (List.mem_cons_of_mem _ hq))
theorem qld_ok {ρ : Nat → Int} (h0 : ρ 0 = 1) {t : Nat} {r : List qV} {x : qF} : ∀ {os : List (Int × Int)} {lb : Option Int}, (∀ q ∈ os, q.1 ≠ qD ρ x) → (∀ b, lb = some b → b < qD ρ x) → ∃ s ∈ qLd t r x lb os, s.1 = t ∧ s.2.1 = r ∧ ∀ f ∈ s.2.2, 0 ≤ qD ρ f
  | os, lb, hk, hb => by
    have hL : ∀ f ∈ qLb x lb, 0 ≤ qD ρ f := by
      intro f hf
      cases lb with
      | none => cases hf
      | some b =>
        have := hb b rfl
        rcases List.mem_cons.mp hf with rfl | hf
        · rw [qd_sub, qd_cn h0]; omega
        · cases hf
    match os, hk with
    | [], _ => exact ⟨_, List.mem_cons_self, rfl, rfl, hL⟩
    | q :: os, hk =>
      have hq := hk q List.mem_cons_self
      by_cases hlt : qD ρ x < q.1
      · refine ⟨_, List.mem_cons_self, rfl, rfl, fun f hf => ?_⟩
        rcases List.mem_cons.mp hf with rfl | hf
        · rw [qd_sub, qd_cn h0]; omega
        · exact hL f hf
      · obtain ⟨s, h1, h2⟩ := qld_ok h0 (t := t) (r := r) (x := x) (os := os) (lb := some q.1) (fun q' hq' => hk q' (List.mem_cons_of_mem _ hq')) (fun b hb' => by cases hb'; omega)
        exact ⟨s, List.mem_cons_of_mem _ h1, h2⟩
theorem qlng_ok {ρ : Nat → Int} (h0 : ρ 0 = 1) {fs : List qF} (hf : ∀ f ∈ fs, 0 ≤ qD ρ f) {x a b : qF} (h : qLng fs x a b = true) : inL (qD ρ x) := by
  unfold qLng at h
  rw [Bool.and_eq_true] at h
  have h1 := qd_ent h0 hf h.1
  have h2 := qd_ent h0 hf h.2
  rw [qd_add, qd_cn h0] at h1
  rw [qd_sub, qd_cn h0] at h2
  exact ⟨by omega, by omega⟩
theorem qjp_ok {i : Instr} {pc len a : Nat} {st : List qV} {fs : List qF} {hs hs' : qHs} {su : qSu} (h : qJp i pc len st fs hs = some (su, hs')) {ρ : Nat → Int} (h0 : ρ 0 = 1) (hf : ∀ f ∈ fs, 0 ≤ qD ρ f) (M : pMe) (lv : pLv) (L : pHp) : ∃ s ∈ su, pStp M (pc, i, len, a) lv ((qDS ρ st).map sE) L (s.1, lv, (qDS ρ s.2.1).map sE, L) ∧ ∀ f ∈ s.2.2, 0 ≤ qD ρ f := by
  have hJ : ∀ {t : Nat} {st' : List qV}, pJmp i pc len ((qDS ρ st).map sE) = some (t, (qDS ρ st').map sE) → pStp M (pc, i, len, a) lv ((qDS ρ st).map sE) L (t, lv, (qDS ρ st').map sE, L) := fun h => Or.inr (Or.inr (Or.inl ⟨_, _, h, rfl⟩))
  unfold qJp at h
  split at h
  · split at h
    · rename_i t ht
      obtain ⟨h1, h2⟩ := zcond h
      cases h2
      have h1 := Nat.eq_of_beq_eq_true h1
      subst h1
      refine ⟨_, List.mem_cons_self, hJ ?_, fun _ hf => nomatch hf⟩
      show (if (3 : Nat) = 3 then (pTo pc _).map (fun t => (t, _)) else none) = _
      rw [if_pos rfl, ht]
      rfl
    · cases h
  · split at h
    · rename_i c off _ x r
      split at h
      · rename_i t ht
        cases h1 : Nat.beq len 3 with
        | false => rw [h1] at h; cases h
        | true =>
          rw [h1] at h
          have h1 := Nat.eq_of_beq_eq_true h1
          subst h1
          obtain ⟨s, h2, h3, h4, h5⟩ := qbr_ok h h0 hf
          refine ⟨s, h2, hJ ?_, h5⟩
          show (if (3 : Nat) = 3 then (pTo pc off).map (fun t => (if pCmp c (Int32.ofInt (qD ρ x)) 0 = true then t else pc + 3, (qDS ρ r).map sE)) else none) = _
          rw [if_pos rfl, ht, h4, ← h3]
          rfl
      · cases h
    · cases h
  · split at h
    · rename_i c off _ y x r
      split at h
      · rename_i t ht
        cases h1 : Nat.beq len 3 with
        | false => rw [h1] at h; cases h
        | true =>
          rw [h1] at h
          have h1 := Nat.eq_of_beq_eq_true h1
          subst h1
          obtain ⟨s, h2, h3, h4, h5⟩ := qbr_ok h h0 hf
          refine ⟨s, h2, hJ ?_, h5⟩
          show (if (3 : Nat) = 3 then (pTo pc off).map (fun t => (if pCmp c (Int32.ofInt (qD ρ x)) (Int32.ofInt (qD ρ y)) = true then t else pc + 3, (qDS ρ r).map sE)) else none) = _
          rw [if_pos rfl, ht, h4, ← h3]
          rfl
      · cases h
    · cases h
  · split at h
    · rename_i d lo hi offs _ x r
      split at h
      · rename_i a' b u
        cases h1 : (qInt fs x a' b && !(zNg ((offs.size : Int) - 1 - (hi - lo)))) with
        | false => rw [h1] at h; cases h
        | true =>
          rw [h1, cond_true] at h
          rw [Bool.and_eq_true, Bool.not_eq_true'] at h1
          have hx := qint_ok h0 hf h1.1
          have hsz := zng_f h1.2
          split at h
          · rename_i t l ht hl
            cases h
            by_cases hc : qD ρ x < lo ∨ hi < qD ρ x
            · have hgo : pJmp (.tableswitch d lo hi offs) pc len ((qDS ρ ((0, x) :: r)).map sE) = some (t, (qDS ρ r).map sE) := by
                show (if (Int32.ofInt (qD ρ x)).toInt < lo ∨ hi < (Int32.ofInt (qD ρ x)).toInt then (pTo pc d).map (fun t => (t, (qDS ρ r).map sE)) else match offs[((Int32.ofInt (qD ρ x)).toInt - lo).toNat]? with | some o => (pTo pc o).map (fun t => (t, (qDS ρ r).map sE)) | none => none) = _
                rw [inR_to hx, if_pos hc, ht]
                rfl
              rcases hc with hc | hc
              · refine ⟨_, List.mem_cons_self, hJ hgo, fun f hf => ?_⟩
                rcases List.mem_cons.mp hf with rfl | hf
                · rw [qd_sub, qd_cn h0]; omega
                · cases hf
              · refine ⟨_, List.mem_cons_of_mem _ List.mem_cons_self, hJ hgo, fun f hf => ?_⟩
                rcases List.mem_cons.mp hf with rfl | hf
                · rw [qd_sub, qd_cn h0]; omega
                · cases hf
            · have hi' : (qD ρ x - lo).toNat < offs.size := by omega
              have ho : offs[(qD ρ x - lo).toNat]? = some offs[(qD ρ x - lo).toNat] := Array.getElem?_eq_getElem hi'
              obtain ⟨t', h3, h4⟩ := qts_mem hl (qD ρ x - lo).toNat _ (by rw [Array.getElem?_toList]; exact ho)
              refine ⟨_, List.mem_cons_of_mem _ (List.mem_cons_of_mem _ h4), hJ ?_, ?_⟩
              · show (if (Int32.ofInt (qD ρ x)).toInt < lo ∨ hi < (Int32.ofInt (qD ρ x)).toInt then (pTo pc d).map (fun t => (t, (qDS ρ r).map sE)) else match offs[((Int32.ofInt (qD ρ x)).toInt - lo).toNat]? with | some o => (pTo pc o).map (fun t => (t, (qDS ρ r).map sE)) | none => none) = _
                rw [inR_to hx, if_neg hc, ho]
                show (pTo pc _).map _ = _
                rw [h3]
                rfl
              · intro f hf'
                rcases List.mem_cons.mp hf' with rfl | hf'
                · rw [qd_sub, qd_cn h0]; omega
                · rcases List.mem_cons.mp hf' with rfl | hf'
                  · rw [qd_sub, qd_cn h0]; omega
                  · cases hf'
          · cases h
      · cases h
    · cases h
  · split at h
    · rename_i d ps _ x r
      split at h
      · rename_i a' b u
        cases h1 : (qInt fs x a' b && (ps.toList.zip (ps.toList.drop 1)).all (fun (a, next) => a.1 < next.1)) with
        | false => rw [h1] at h; cases h
        | true =>
          rw [h1, cond_true] at h
          rw [Bool.and_eq_true] at h1
          have hx := qint_ok h0 hf h1.1
          have hp : ∀ t, pTo pc (Op.lookupswitch.offset ps.toList d (qD ρ x)) = some t → pJmp (.lookupswitch d ps) pc len ((qDS ρ ((0, x) :: r)).map sE) = some (t, (qDS ρ r).map sE) := by
            intro t ht
            show (if (ps.toList.zip (ps.toList.drop 1)).all (fun (a, next) => a.1 < next.1) = true then (pTo pc (Op.lookupswitch.offset ps.toList d (Int32.ofInt (qD ρ x)).toInt)).map (fun t => (t, (qDS ρ r).map sE)) else none) = _
            rw [if_pos h1.2, inR_to hx, ht]
            rfl
          split at h
          · rename_i t l ht hl
            cases h
            rcases qls_key (d := d) (k := qD ρ x) hl with h3 | ⟨t', h3, h4⟩
            · obtain ⟨s, h5, h6, h7, h8⟩ := qld_ok h0 (t := t) (r := r) (x := x) (lb := none) h3 (fun _ h => nomatch h)
              refine ⟨s, List.mem_append_left _ h5, ?_, h8⟩
              rw [h6, h7]
              exact hJ (hp _ (by rw [qls_no h3]; exact ht))
            · refine ⟨_, List.mem_append_right _ h4, hJ (hp _ h3), ?_⟩
              intro f hf'
              rcases List.mem_cons.mp hf' with rfl | hf'
              · rw [qd_sub, qd_cn h0]; omega
              · rcases List.mem_cons.mp hf' with rfl | hf'
                · rw [qd_sub, qd_cn h0]; omega
                · cases hf'
          · cases h
      · cases h
    · cases h
  · split at h
    · rename_i y x r
      cases h1 : Nat.beq len 1 with
      | false => rw [h1] at h; cases h
      | true =>
        rw [h1, cond_true] at h
        have h1 := Nat.eq_of_beq_eq_true h1
        subst h1
        have hS : ∀ c : Int, lg_cmp (Int64.ofInt (qD ρ x)) (Int64.ofInt (qD ρ y)) = Int32.ofInt c → pStp M (pc, .lcmp, 1, a) lv ((qDS ρ ((1, y) :: (1, x) :: r)).map sE) L (pc + 1, lv, (qDS ρ ((0, qCn c) :: r)).map sE, L) := by
          intro c hc
          refine Or.inl ⟨_, ?_, rfl⟩
          show some (1, Value.int (lg_cmp (Int64.ofInt (qD ρ x)) (Int64.ofInt (qD ρ y))) :: _) = some (1, sE (0, qD ρ (qCn c)) :: _)
          rw [hc, qd_cn h0]
          rfl
        split at h
        · cases h
          rcases zn_cmp3 (Int64.ofInt (qD ρ x)) (Int64.ofInt (qD ρ y)) with h2 | h2 | h2
          · exact ⟨_, List.mem_cons_self, hS _ h2, fun _ hf => nomatch hf⟩
          · exact ⟨_, List.mem_cons_of_mem _ List.mem_cons_self, hS _ h2, fun _ hf => nomatch hf⟩
          · exact ⟨_, List.mem_cons_of_mem _ (List.mem_cons_of_mem _ List.mem_cons_self), hS _ h2, fun _ hf => nomatch hf⟩
        · obtain ⟨h1, h2⟩ := zcond h
          cases h2
          rw [Bool.and_eq_true] at h1
          have h3 := zn_cmp (qlng_ok h0 hf h1.1) (qlng_ok h0 hf h1.2)
          by_cases hlt : qD ρ y < qD ρ x
          · rw [if_pos hlt] at h3
            refine ⟨_, List.mem_cons_of_mem _ (List.mem_cons_of_mem _ List.mem_cons_self), hS _ h3, fun f hf' => ?_⟩
            rcases List.mem_cons.mp hf' with rfl | hf'
            · rw [qd_sub, qd_sub, qd_cn h0]; omega
            · cases hf'
          · rw [if_neg hlt] at h3
            by_cases heq : qD ρ x = qD ρ y
            · rw [if_pos heq] at h3
              refine ⟨_, List.mem_cons_of_mem _ List.mem_cons_self, hS _ h3, fun f hf' => ?_⟩
              rcases List.mem_cons.mp hf' with rfl | hf'
              · rw [qd_sub]; omega
              · rcases List.mem_cons.mp hf' with rfl | hf'
                · rw [qd_sub]; omega
                · cases hf'
            · rw [if_neg heq] at h3
              refine ⟨_, List.mem_cons_self, hS _ h3, fun f hf' => ?_⟩
              rcases List.mem_cons.mp hf' with rfl | hf'
              · rw [qd_sub, qd_sub, qd_cn h0]; omega
              · cases hf'
        · cases h
    · cases h
  · cases h
