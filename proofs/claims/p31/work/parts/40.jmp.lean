/-! LOCALS AND JUMPS, AS FORMS. -/
noncomputable def qLoc (mx : Nat) (i : Instr) (lv : qLv) (st : List qV) : Option (Nat × qLv × List qV) := match i with
  | .iload_n k => match qGet lv k with | some (0, x) => some (1, lv, (0, x) :: st) | _ => none
  | .iload k => match qGet lv k with | some (0, x) => some (2, lv, (0, x) :: st) | _ => none
  | .lload_n k => match qGet lv k with | some (1, x) => some (1, lv, (1, x) :: st) | _ => none
  | .lload k => match qGet lv k with | some (1, x) => some (2, lv, (1, x) :: st) | _ => none
  | .aload_n k => match qGet lv k with | some (2, x) => some (1, lv, (2, x) :: st) | some (3, x) => (match qKo x with | some c => cond (zNg (1 - c)) none (some (1, lv, (3, x) :: st)) | none => none) | _ => none
  | .aload k => match qGet lv k with | some (2, x) => some (2, lv, (2, x) :: st) | _ => none
  | .istore_n k => match st with | (0, x) :: r => cond (Nat.blt k mx) (some (1, qPut1 lv k (0, x), r)) none | _ => none
  | .istore k => match st with | (0, x) :: r => cond (Nat.blt k mx) (some (2, qPut1 lv k (0, x), r)) none | _ => none
  | .lstore_n k => match st with | (1, x) :: r => cond (Nat.blt (k + 1) mx) (some (1, qPut2 lv k (1, x), r)) none | _ => none
  | .lstore k => match st with | (1, x) :: r => cond (Nat.blt (k + 1) mx) (some (2, qPut2 lv k (1, x), r)) none | _ => none
  | .astore_n k => match st with | (2, x) :: r => cond (Nat.blt k mx) (some (1, qPut1 lv k (2, x), r)) none | _ => none
  | .astore k => match st with | (2, x) :: r => cond (Nat.blt k mx) (some (2, qPut1 lv k (2, x), r)) none | _ => none
  | .iinc k c => match qGet lv k with | some (0, x) => cond (Nat.blt k mx) (some (3, qPut1 lv k (0, qAdd x (qCn c)), st)) none | _ => none
  | _ => none
theorem zcond {α : Type} {b : Bool} {x y : α} (h : cond b (some x) none = some y) : b = true ∧ x = y := by
  cases b with
  | true => exact ⟨rfl, Option.some.inj h⟩
  | false => cases h
theorem zblt {a b : Nat} (h : Nat.blt a b = true) : a < b := Nat.le_of_ble_eq_true h
theorem qloc_ok {mx : Nat} {i : Instr} {lv lv' : qLv} {st st' : List qV} {len : Nat} (h : qLoc mx i lv st = some (len, lv', st')) (ρ : Nat → Int) (h0 : ρ 0 = 1) : pLoc false mx i (sL (qDL ρ lv)) ((qDS ρ st).map sE) = some (len, sL (qDL ρ lv'), (qDS ρ st').map sE) := by
  have hG : ∀ {k : Nat} {v : qV}, qGet lv k = some v → pGet (sL (qDL ρ lv)) k = some (sE (qDV ρ v)) := by
    intro k v hv
    rw [sl_get, ql_get, hv]
    rfl
  have hP : ∀ (k : Nat) (v : qV), pPut1 (sL (qDL ρ lv)) k (sE (qDV ρ v)) = sL (qDL ρ (qPut1 lv k v)) := by
    intro k v
    rw [sl_put1, ql_put1]
  have hP2 : ∀ (k : Nat) (v : qV), pPut2 (sL (qDL ρ lv)) k (sE (qDV ρ v)) = sL (qDL ρ (qPut2 lv k v)) := by
    intro k v
    rw [sl_put2, ql_put2]
  unfold qLoc at h
  unfold pLoc
  split at h
  · split at h
    · rename_i x hg
      cases h
      dsimp only
      rw [hG hg]
      rfl
    · cases h
  · split at h
    · rename_i x hg
      cases h
      dsimp only
      rw [hG hg]
      rfl
    · cases h
  · split at h
    · rename_i x hg
      cases h
      dsimp only
      rw [hG hg]
      rfl
    · cases h
  · split at h
    · rename_i x hg
      cases h
      dsimp only
      rw [hG hg]
      rfl
    · cases h
  · split at h
    · rename_i x hg
      cases h
      dsimp only
      rw [hG hg]
      rfl
    · rename_i x hg
      split at h
      · rename_i c hc
        cases hn : zNg (1 - c) with
        | true => rw [hn] at h; cases h
        | false =>
          rw [hn] at h
          cases h
          have h1 := zng_f hn
          have h2 := qd_ko h0 hc
          dsimp only
          rw [hG hg]
          have hp : pRef (sE (qDV ρ (3, x))) = true := by
            show decide ((UInt32.ofNat (qD ρ x).toNat).toNat < 2) = true
            refine decide_eq_true ?_
            have h3 : (qD ρ x).toNat = 0 ∨ (qD ρ x).toNat = 1 := by omega
            rcases h3 with h3 | h3 <;> rw [h3] <;> decide
          dsimp only
          rw [if_pos hp]
          rfl
      · cases h
    · cases h
  · split at h
    · rename_i x hg
      cases h
      dsimp only
      rw [hG hg]
      rfl
    · cases h
  · split at h
    · rename_i x r
      obtain ⟨h1, h2⟩ := zcond h
      cases h2
      rw [← hP]
      exact if_pos ⟨rfl, zblt h1⟩
    · cases h
  · split at h
    · rename_i x r
      obtain ⟨h1, h2⟩ := zcond h
      cases h2
      rw [← hP]
      exact if_pos ⟨rfl, zblt h1⟩
    · cases h
  · split at h
    · rename_i x r
      obtain ⟨h1, h2⟩ := zcond h
      cases h2
      rw [← hP2]
      exact if_pos (zblt h1)
    · cases h
  · split at h
    · rename_i x r
      obtain ⟨h1, h2⟩ := zcond h
      cases h2
      rw [← hP2]
      exact if_pos (zblt h1)
    · cases h
  · split at h
    · rename_i x r
      obtain ⟨h1, h2⟩ := zcond h
      cases h2
      rw [← hP]
      exact if_pos (zblt h1)
    · cases h
  · split at h
    · rename_i x r
      obtain ⟨h1, h2⟩ := zcond h
      cases h2
      rw [← hP]
      exact if_pos (zblt h1)
    · cases h
  · split at h
    · rename_i x hg
      obtain ⟨h1, h2⟩ := zcond h
      cases h2
      dsimp only
      rw [hG hg]
      show (if _ < mx then some (3, pPut1 (sL (qDL ρ lv)) _ (.int (Int32.ofInt (qD ρ x) + Int32.ofInt _)), _) else none) = _
      rw [if_pos (zblt h1), ← Int32.ofInt_add, ← hP]
      show _ = some (3, pPut1 _ _ (Value.int (Int32.ofInt (qD ρ (qAdd x (qCn _))))), _)
      rw [qd_add, qd_cn h0]
    · cases h
  · cases h
/-! what a jump may lead to: place, stack, new facts -/
abbrev qSu : Type := List (Nat × List qV × List qF)
noncomputable def qCf (c : Jvm.ClassFile.Cond) (x y : qF) : List qF × List qF := match c with
  | .eq => ([qSub x y, qSub y x], [])
  | .ne => ([], [qSub x y, qSub y x])
  | .lt => ([qSub (qSub y x) (qCn 1)], [qSub x y])
  | .ge => ([qSub x y], [qSub (qSub y x) (qCn 1)])
  | .gt => ([qSub (qSub x y) (qCn 1)], [qSub y x])
  | .le => ([qSub y x], [qSub (qSub x y) (qCn 1)])
noncomputable def qCn2 (c : Jvm.ClassFile.Cond) (f : qF) (p : List qF × List qF) : List qF × List qF := match c with
  | .eq => (p.1, f :: p.2)
  | .ne => (f :: p.1, p.2)
  | _ => p
noncomputable def qInt (fs : List qF) (x : qF) (a b : qF) : Bool := qEnt fs (qAdd x (qCn 2147483648)) a && qEnt fs (qSub (qCn 2147483647) x) b
noncomputable def zCmp (c : Jvm.ClassFile.Cond) (x y : Int) : Bool := match c with
  | .eq => x == y
  | .ne => !(x == y)
  | .lt => zNg (x - y)
  | .ge => !(zNg (x - y))
  | .gt => zNg (y - x)
  | .le => !(zNg (y - x))
/-- a test of two ints: where it leads -/
noncomputable def qBr (c : Jvm.ClassFile.Cond) (x y : qF) (t e : Nat) (r : List qV) (fs : List qF) (hs : qHs) : Option (qSu × qHs) := match hs with
  | [] :: u => some ([(t, r, []), (e, r, [])], u)
  | [(1, 0)] :: a :: b :: a' :: b' :: u => cond (qInt fs x a b && qInt fs y a' b') (some ([(t, r, (qCf c x y).1), (e, r, (qCf c x y).2)], u)) none
  | [(2, 0)] :: a :: b :: a' :: b' :: f :: u => cond (qInt fs x a b && qInt fs y a' b' && qEnt fs (qSub x y) f) (some ([(t, r, (qCn2 c (qSub (qSub x y) (qCn 1)) (qCf c x y)).1), (e, r, (qCn2 c (qSub (qSub x y) (qCn 1)) (qCf c x y)).2)], u)) none
  | [(3, 0)] :: a :: b :: a' :: b' :: f :: u => cond (qInt fs x a b && qInt fs y a' b' && qEnt fs (qSub y x) f) (some ([(t, r, (qCn2 c (qSub (qSub y x) (qCn 1)) (qCf c x y)).1), (e, r, (qCn2 c (qSub (qSub y x) (qCn 1)) (qCf c x y)).2)], u)) none
  | [(5, 0)] :: a :: b :: a' :: b' :: u => cond (qInt fs x a b && qInt fs y a' b') (match c with
    | .eq => some ([(t, r, [qSub x y, qSub y x]), (e, r, [qSub (qSub x y) (qCn 1)]), (e, r, [qSub (qSub y x) (qCn 1)])], u)
    | .ne => some ([(t, r, [qSub (qSub x y) (qCn 1)]), (t, r, [qSub (qSub y x) (qCn 1)]), (e, r, [qSub x y, qSub y x])], u)
    | _ => none) none
  | [(4, 0)] :: u => match qKo x, qKo y with
    | some a, some b => cond (zIn32 a && zIn32 b) (some ([(cond (zCmp c a b) t e, r, [])], u)) none
    | _, _ => none
  | _ => none
theorem qint_ok {ρ : Nat → Int} (h0 : ρ 0 = 1) {fs : List qF} (hf : ∀ f ∈ fs, 0 ≤ qD ρ f) {x a b : qF} (h : qInt fs x a b = true) : inR (qD ρ x) := by
  unfold qInt at h
  rw [Bool.and_eq_true] at h
  have h1 := qd_ent h0 hf h.1
  have h2 := qd_ent h0 hf h.2
  rw [qd_add, qd_cn h0] at h1
  rw [qd_sub, qd_cn h0] at h2
  exact ⟨by omega, by omega⟩
theorem qcf_ok {ρ : Nat → Int} (h0 : ρ 0 = 1) (c : Jvm.ClassFile.Cond) (x y : qF) : (sCmp c (qD ρ x) (qD ρ y) → ∀ f ∈ (qCf c x y).1, 0 ≤ qD ρ f) ∧ (¬ sCmp c (qD ρ x) (qD ρ y) → ∀ f ∈ (qCf c x y).2, 0 ≤ qD ρ f) := by
  cases c <;> refine ⟨fun h f hf => ?_, fun h f hf => ?_⟩ <;> simp only [qCf, List.mem_cons, List.not_mem_nil, or_false] at hf <;> simp only [sCmp] at h
  · rcases hf with rfl | rfl <;> rw [qd_sub] <;> omega
  · rcases hf with rfl | rfl <;> rw [qd_sub] <;> omega
  · subst hf; rw [qd_sub, qd_sub, qd_cn h0]; omega
  · subst hf; rw [qd_sub]; omega
  · subst hf; rw [qd_sub]; omega
  · subst hf; rw [qd_sub, qd_sub, qd_cn h0]; omega
  · subst hf; rw [qd_sub, qd_sub, qd_cn h0]; omega
  · subst hf; rw [qd_sub]; omega
  · subst hf; rw [qd_sub]; omega
  · subst hf; rw [qd_sub, qd_sub, qd_cn h0]; omega
theorem qcn2_ok {ρ : Nat → Int} {c : Jvm.ClassFile.Cond} {x y f0 : qF} {p : List qF × List qF} (hne : qD ρ x ≠ qD ρ y → 0 ≤ qD ρ f0) (h : (sCmp c (qD ρ x) (qD ρ y) → ∀ f ∈ p.1, 0 ≤ qD ρ f) ∧ (¬ sCmp c (qD ρ x) (qD ρ y) → ∀ f ∈ p.2, 0 ≤ qD ρ f)) : (sCmp c (qD ρ x) (qD ρ y) → ∀ f ∈ (qCn2 c f0 p).1, 0 ≤ qD ρ f) ∧ (¬ sCmp c (qD ρ x) (qD ρ y) → ∀ f ∈ (qCn2 c f0 p).2, 0 ≤ qD ρ f) := by
  cases c
  · refine ⟨h.1, fun hn f hf => ?_⟩
    rcases List.mem_cons.mp hf with rfl | hf
    · exact hne hn
    · exact h.2 hn f hf
  · refine ⟨fun hn f hf => ?_, h.2⟩
    rcases List.mem_cons.mp hf with rfl | hf
    · exact hne hn
    · exact h.1 hn f hf
  all_goals exact h
theorem zcmp_ok {c : Jvm.ClassFile.Cond} {x y : Int} : zCmp c x y = true ↔ sCmp c x y := by
  have hN : ∀ z : Int, zNg z = true ↔ z < 0 := by
    intro z
    cases z with
    | ofNat n => exact ⟨fun h => (nomatch h), fun h => absurd h (Int.not_lt.mpr (Int.natCast_nonneg n))⟩
    | negSucc n => exact ⟨fun _ => Int.negSucc_lt_zero n, fun _ => rfl⟩
  cases c <;> simp only [zCmp, sCmp, Bool.not_eq_true', ← Bool.not_eq_true, hN, beq_iff_eq] <;> omega
/-- of what a test may lead to, one is what it leads to -/
theorem qbr_ok {c : Jvm.ClassFile.Cond} {x y : qF} {t e : Nat} {r : List qV} {fs : List qF} {hs hs' : qHs} {su : qSu} (h : qBr c x y t e r fs hs = some (su, hs')) {ρ : Nat → Int} (h0 : ρ 0 = 1) (hf : ∀ f ∈ fs, 0 ≤ qD ρ f) : ∃ s ∈ su, (if pCmp c (Int32.ofInt (qD ρ x)) (Int32.ofInt (qD ρ y)) = true then t else e) = s.1 ∧ s.2.1 = r ∧ ∀ f ∈ s.2.2, 0 ≤ qD ρ f := by
  have hT : ∀ (p : List qF × List qF), inR (qD ρ x) → inR (qD ρ y) → ((sCmp c (qD ρ x) (qD ρ y) → ∀ f ∈ p.1, 0 ≤ qD ρ f) ∧ (¬ sCmp c (qD ρ x) (qD ρ y) → ∀ f ∈ p.2, 0 ≤ qD ρ f)) → ∃ s ∈ ([(t, r, p.1), (e, r, p.2)] : qSu), (if pCmp c (Int32.ofInt (qD ρ x)) (Int32.ofInt (qD ρ y)) = true then t else e) = s.1 ∧ s.2.1 = r ∧ ∀ f ∈ s.2.2, 0 ≤ qD ρ f := by
    intro p hx hy hp
    by_cases hc : sCmp c (qD ρ x) (qD ρ y)
    · exact ⟨_, List.mem_cons_self, if_pos ((scmp_iff hx hy).mpr hc), rfl, hp.1 hc⟩
    · exact ⟨_, List.mem_cons_of_mem _ List.mem_cons_self, if_neg (fun z => hc ((scmp_iff hx hy).mp z)), rfl, hp.2 hc⟩
  unfold qBr at h
  split at h
  · cases h
    by_cases hc : pCmp c (Int32.ofInt (qD ρ x)) (Int32.ofInt (qD ρ y)) = true
    · exact ⟨_, List.mem_cons_self, if_pos hc, rfl, fun _ hf => nomatch hf⟩
    · exact ⟨_, List.mem_cons_of_mem _ List.mem_cons_self, if_neg hc, rfl, fun _ hf => nomatch hf⟩
  · obtain ⟨h1, h2⟩ := zcond h
    cases h2
    rw [Bool.and_eq_true] at h1
    exact hT _ (qint_ok h0 hf h1.1) (qint_ok h0 hf h1.2) (qcf_ok h0 c x y)
  · obtain ⟨h1, h2⟩ := zcond h
    cases h2
    rw [Bool.and_eq_true, Bool.and_eq_true] at h1
    refine hT _ (qint_ok h0 hf h1.1.1) (qint_ok h0 hf h1.1.2) (qcn2_ok (fun hne => ?_) (qcf_ok h0 c x y))
    have h3 := qd_ent h0 hf h1.2
    rw [qd_sub] at h3
    rw [qd_sub, qd_sub, qd_cn h0]
    omega
  · obtain ⟨h1, h2⟩ := zcond h
    cases h2
    rw [Bool.and_eq_true, Bool.and_eq_true] at h1
    refine hT _ (qint_ok h0 hf h1.1.1) (qint_ok h0 hf h1.1.2) (qcn2_ok (fun hne => ?_) (qcf_ok h0 c x y))
    have h3 := qd_ent h0 hf h1.2
    rw [qd_sub] at h3
    rw [qd_sub, qd_sub, qd_cn h0]
    omega
  · rename_i a b a' b' u
    cases h1 : (qInt fs x a b && qInt fs y a' b') with
    | false => rw [h1] at h; cases h
    | true =>
      rw [h1, cond_true] at h
      rw [Bool.and_eq_true] at h1
      have hx := qint_ok h0 hf h1.1
      have hy := qint_ok h0 hf h1.2
      split at h
      · cases h
        by_cases hc : qD ρ x = qD ρ y
        · refine ⟨_, List.mem_cons_self, if_pos ((scmp_iff (c := .eq) hx hy).mpr hc), rfl, fun f hf' => ?_⟩
          rcases List.mem_cons.mp hf' with rfl | hf'
          · rw [qd_sub]; omega
          · rcases List.mem_cons.mp hf' with rfl | hf'
            · rw [qd_sub]; omega
            · cases hf'
        · by_cases hl : qD ρ x > qD ρ y
          · refine ⟨_, List.mem_cons_of_mem _ List.mem_cons_self, if_neg (fun z => hc ((scmp_iff (c := .eq) hx hy).mp z)), rfl, fun f hf' => ?_⟩
            rcases List.mem_cons.mp hf' with rfl | hf'
            · rw [qd_sub, qd_sub, qd_cn h0]; omega
            · cases hf'
          · refine ⟨_, List.mem_cons_of_mem _ (List.mem_cons_of_mem _ List.mem_cons_self), if_neg (fun z => hc ((scmp_iff (c := .eq) hx hy).mp z)), rfl, fun f hf' => ?_⟩
            rcases List.mem_cons.mp hf' with rfl | hf'
            · rw [qd_sub, qd_sub, qd_cn h0]; omega
            · cases hf'
      · cases h
        by_cases hc : qD ρ x = qD ρ y
        · refine ⟨_, List.mem_cons_of_mem _ (List.mem_cons_of_mem _ List.mem_cons_self), if_neg (fun z => ((scmp_iff (c := .ne) hx hy).mp z) hc), rfl, fun f hf' => ?_⟩
          rcases List.mem_cons.mp hf' with rfl | hf'
          · rw [qd_sub]; omega
          · rcases List.mem_cons.mp hf' with rfl | hf'
            · rw [qd_sub]; omega
            · cases hf'
        · by_cases hl : qD ρ x > qD ρ y
          · refine ⟨_, List.mem_cons_self, if_pos ((scmp_iff (c := .ne) hx hy).mpr hc), rfl, fun f hf' => ?_⟩
            rcases List.mem_cons.mp hf' with rfl | hf'
            · rw [qd_sub, qd_sub, qd_cn h0]; omega
            · cases hf'
          · refine ⟨_, List.mem_cons_of_mem _ List.mem_cons_self, if_pos ((scmp_iff (c := .ne) hx hy).mpr hc), rfl, fun f hf' => ?_⟩
            rcases List.mem_cons.mp hf' with rfl | hf'
            · rw [qd_sub, qd_sub, qd_cn h0]; omega
            · cases hf'
      · cases h
  · split at h
    · rename_i u a b ha hb
      obtain ⟨h1, h2⟩ := zcond h
      cases h2
      rw [Bool.and_eq_true] at h1
      have h3 := zin_f (k := 2147483648) h1.1
      have h4 := zin_f (k := 2147483648) h1.2
      have ea := qd_ko h0 ha
      have eb := qd_ko h0 hb
      have hx : inR (qD ρ x) := by rw [ea]; exact ⟨by omega, by omega⟩
      have hy : inR (qD ρ y) := by rw [eb]; exact ⟨by omega, by omega⟩
      refine ⟨_, List.mem_cons_self, ?_, rfl, fun _ hf => nomatch hf⟩
      cases hz : zCmp c a b with
      | true => exact if_pos ((scmp_iff hx hy).mpr (by rw [ea, eb]; exact zcmp_ok.mp hz))
      | false => exact if_neg (fun z => by
          have := (scmp_iff hx hy).mp z
          rw [ea, eb] at this
          rw [zcmp_ok.mpr this] at hz
          cases hz)
    · cases h
  · cases h
