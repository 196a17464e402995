/-! FROM THE CALLS WITH UNKNOWNS TO THE CALLS THEMSELVES. -/
def aPv (v : Value) : Bool := match v with
  | .float u => decide (u.toNat < 8)
  | _ => true
def aPh (L : pHp) : Bool := L.all (fun o => o.2.all aPv)
theorem vR_pure {ρ : Nat → Int32} {v : Value} (h : aPv v = true) : vR ρ v v := by
  cases v with
  | float u =>
    have h1 : u.toNat < 8 := of_decide_eq_true h
    show (if u.toNat < 8 then Value.float u = .float u else _)
    rw [if_pos h1]
  | _ => rfl
theorem vL_pure {ρ : Nat → Int32} : ∀ {l : List Value}, l.all aPv = true → vL ρ l l
  | [], _ => rfl
  | a :: l, h => by
    rw [List.all_cons, Bool.and_eq_true] at h
    exact ⟨a, l, rfl, vR_pure h.1, vL_pure h.2⟩
theorem vH_pure {ρ : Nat → Int32} : ∀ {L : pHp}, aPh L = true → vH ρ L L
  | [], _ => rfl
  | o :: L, h => by
    unfold aPh at h
    rw [List.all_cons, Bool.and_eq_true] at h
    exact ⟨o.2, L, rfl, vL_pure h.1, vH_pure h.2⟩
theorem vL_pureEq {ρ : Nat → Int32} : ∀ {l m : List Value}, l.all aPv = true → vL ρ l m → m = l
  | [], _, _, h => h
  | a :: l, m, hp, ⟨b, m', h1, h2, h3⟩ => by
    rw [List.all_cons, Bool.and_eq_true] at hp
    have e1 : b = a := by
      cases a with
      | float u =>
        have hu : u.toNat < 8 := of_decide_eq_true hp.1
        have h2' : (if u.toNat < 8 then b = .float u else if u.toNat = 4294967295 then ∃ x, b = .int x else b = .int (ρ (u.toNat - 8))) := h2
        rw [if_pos hu] at h2'
        exact h2'
      | _ => exact h2
    rw [h1, e1, vL_pureEq hp.2 h3]
theorem vH_pureEq {ρ : Nat → Int32} : ∀ {L M : pHp}, aPh L = true → vH ρ L M → M = L
  | [], _, _, h => h
  | o :: L, M, hp, ⟨es, m', h1, h2, h3⟩ => by
    unfold aPh at hp
    rw [List.all_cons, Bool.and_eq_true] at hp
    rw [h1, vL_pureEq hp.1 h2, vH_pureEq hp.2 h3]
theorem vR_one {ρ : Nat → Int32} {v x y : Value} (hn : v ≠ aTop) (h1 : vR ρ v x) (h2 : vR ρ v y) : x = y := by
  cases v with
  | float u =>
    have h1' : (if u.toNat < 8 then x = .float u else if u.toNat = 4294967295 then ∃ z, x = .int z else x = .int (ρ (u.toNat - 8))) := h1
    have h2' : (if u.toNat < 8 then y = .float u else if u.toNat = 4294967295 then ∃ z, y = .int z else y = .int (ρ (u.toNat - 8))) := h2
    by_cases c1 : u.toNat < 8
    · rw [if_pos c1] at h1' h2'
      rw [h1', h2']
    · rw [if_neg c1] at h1' h2'
      by_cases c2 : u.toNat = 4294967295
      · exact absurd (congrArg Value.float (UInt32.toNat.inj (c2.trans (by decide)))) hn
      · rw [if_neg c2] at h1' h2'
        rw [h1', h2']
  | int z => exact (show x = .int z from h1).trans (show y = .int z from h2).symm
  | long z => exact (show x = .long z from h1).trans (show y = .long z from h2).symm
  | double z => exact (show x = .double z from h1).trans (show y = .double z from h2).symm
  | ref z => exact (show x = .ref z from h1).trans (show y = .ref z from h2).symm
  | null => exact (show x = .null from h1).trans (show y = .null from h2).symm
  | _ => exact (show x = _ from h1).trans (show y = _ from h2).symm
set_option maxRecDepth 100000 in
theorem fF_pure : aPh fF = true := by decide +kernel
theorem vL_lenq {ρ : Nat → Int32} : ∀ {l m : List Value}, vL ρ l m → m.length = l.length
  | [], _, h => by rw [show _ = [] from h]
  | _ :: _, _, ⟨b, m', h1, _, h3⟩ => by rw [h1, List.length_cons, List.length_cons, vL_lenq h3]
theorem vH_size {ρ : Nat → Int32} : ∀ {L M : pHp}, vH ρ L M → M.length = L.length ∧ pSz M = pSz L
  | [], _, h => by rw [show _ = [] from h]; exact ⟨rfl, rfl⟩
  | o :: L, _, ⟨es, m', h1, h2, h3⟩ => by
    have ih := vH_size h3
    have e := vL_lenq h2
    rw [h1]
    refine ⟨by rw [List.length_cons, List.length_cons, ih.1], ?_⟩
    show es.length + pSz m' = o.2.length + pSz L
    rw [e, ih.2]
theorem aSml_of {ρ : Nat → Int32} {L M : pHp} (h : aSml L = true) (hH : vH ρ L M) : M.length ≤ 100000 ∧ pSz M ≤ 3000000 := by
  unfold aSml at h
  rw [Bool.and_eq_true, decide_eq_true_eq, decide_eq_true_eq] at h
  have e := vH_size hH
  rw [e.1, e.2]
  exact h
theorem cov_both {ρ : Nat → Int32} {env : aEv} {N : Nat} {as cas : List Value} {K1 K2 : Nat} (h : aBoth N env as K1 K2 = true) (he : aEn ρ env) (hv : vL ρ as cas) :
    ∃ (v : Value) (L1 L2 : pHp), pEx 12 K1 (.ref 0 :: cas) fF (some v) L1 ∧ pEx 12 K2 (.ref 91 :: cas) L1 (some v) L2 ∧ L2.length ≤ 100000 ∧ pSz L2 ≤ 3000000 := by
  have hs := aSound (ρ := ρ) (sm := oSm) (N := N) oSm_ok 12
  unfold aBoth at h
  obtain ⟨e1, r, L', cr, cL, p1, he1, hr, hH, h⟩ := hs _ _ _ _ _ h (.ref 0 :: cas) fF he ⟨.ref 0, cas, rfl, rfl, hv⟩ (vH_pure fF_pure)
  obtain ⟨e2, w, L2, cw, cL2, p2, he2, hw, hH2, h⟩ := hs _ _ _ _ _ h (.ref 91 :: cas) cL he1 ⟨.ref 91, cas, rfl, rfl, hv⟩ hH
  rw [Bool.and_eq_true] at h
  obtain ⟨h, hz⟩ := h
  have hz2 := aSml_of hz hH2
  cases r with
  | none => cases h
  | some v =>
    cases w with
    | none => cases h
    | some x =>
      have h2 : (decide (aV e2 v = aV e2 x) && !decide (aV e2 v = aTop)) = true := h
      rw [Bool.and_eq_true, decide_eq_true_eq, Bool.not_eq_true', decide_eq_false_iff_not] at h2
      obtain ⟨cv, rfl, hcv⟩ := hr
      obtain ⟨cx, rfl, hcx⟩ := hw
      have e := vR_one h2.2 (vR_aV he2 hcv) (h2.1 ▸ vR_aV he2 hcx)
      subst e
      exact ⟨cv, cL, cL2, p1, p2, hz2⟩
theorem aEn_nil {ρ : Nat → Int32} : aEn ρ [] := fun k q h => by cases h
theorem cov_x : pEx 12 0 [.ref 0] [(11, pDef 11)] none fX := by
  obtain ⟨e1, r, L', cr, cL, p1, -, hr, hH, h⟩ := aSound (ρ := fun _ => 0) (sm := oSm) (N := 100000) oSm_ok 12 _ _ _ _ _ fx_ok [.ref 0] [(11, pDef 11)] aEn_nil (vL_pure rfl) (vH_pure (by decide +kernel))
  rw [Bool.and_eq_true, decide_eq_true_eq, decide_eq_true_eq] at h
  obtain ⟨rfl, rfl⟩ := h
  cases (show cr = none from hr)
  rw [vH_pureEq (by decide +kernel) hH] at p1
  exact p1
theorem cov_m : pEx 12 166 [.ref 91] (fX ++ [(12, pDef 12)]) none (fX ++ fM) := by
  obtain ⟨e1, r, L', cr, cL, p1, -, hr, hH, h⟩ := aSound (ρ := fun _ => 0) (sm := oSm) (N := 100000) oSm_ok 12 _ _ _ _ _ fm_ok [.ref 91] (fX ++ [(12, pDef 12)]) aEn_nil (vL_pure rfl) (vH_pure (by decide +kernel))
  rw [Bool.and_eq_true, decide_eq_true_eq, decide_eq_true_eq] at h
  obtain ⟨rfl, rfl⟩ := h
  cases (show cr = none from hr)
  rw [vH_pureEq (by decide +kernel) hH] at p1
  exact p1
theorem aEn_E0 {ρ : Nat → Int32} : aEn ρ aE0 := by
  intro k q h
  have hq : q = aFull := by
    have hm := List.mem_of_getElem? h
    simpa [aE0] using hm
  subst hq
  exact ⟨Int32.le_toInt _, Int.le_of_lt_add_one (Int32.toInt_lt _)⟩
def cR (xs : List Int32) : Nat → Int32 := fun k => xs.getD k 0
set_option maxRecDepth 100000 in
theorem fE_pure : aPh fE = true := by decide +kernel
theorem cov_4 (x0 x1 : Int32) : ∃ (v : Option Value) (L1 L2 : pHp), pEx 12 204 [.ref 91, .int x0, .int x1] fE v L1 ∧ pEx 12 168 [.ref 91] L1 (some (.int 1)) L2 ∧ L2.length ≤ 100000 ∧ pSz L2 ≤ 3000000 := by
  have hs := aSound (ρ := cR [x0, x1]) (sm := oSm) (N := 100000) oSm_ok 12
  have hv : vL (cR [x0, x1]) [.ref 91, .float 8, .float 9] [.ref 91, .int x0, .int x1] := ⟨_, _, rfl, rfl, _, _, rfl, rfl, _, _, rfl, rfl, rfl⟩
  obtain ⟨e1, r, L', cr, cL, p1, he1, hr, hH, h⟩ := hs _ _ _ _ _ fc_4 _ fE aEn_E0 hv (vH_pure fE_pure)
  obtain ⟨e2, w, L2, cw, cL2, p2, he2, hw, hH2, h⟩ := hs _ _ _ _ _ h [.ref 91] cL he1 ⟨_, _, rfl, rfl, rfl⟩ hH
  rw [Bool.and_eq_true, decide_eq_true_eq] at h
  obtain ⟨rfl, hz⟩ := h
  obtain ⟨cx, rfl, hcx⟩ := hw
  cases (show cx = .int 1 from hcx)
  exact ⟨cr, cL, cL2, p1, p2, aSml_of hz hH2⟩
theorem cov_ib (x0 : Int32) : pEx 11 77 [.ref 0, .int x0] fF (some (.int 0)) fF := by
  have hv : vL (cR [x0]) [.ref 0, .float 8] [.ref 0, .int x0] := ⟨_, _, rfl, rfl, _, _, rfl, rfl, rfl⟩
  obtain ⟨e1, r, L', cr, cL, p1, -, hr, hH, h⟩ := aSound (ρ := cR [x0]) (sm := oSm) (N := 100000) oSm_ok 11 _ _ _ _ _ fc_ib _ fF aEn_E0 hv (vH_pure fF_pure)
  rw [Bool.and_eq_true, decide_eq_true_eq, decide_eq_true_eq] at h
  obtain ⟨rfl, rfl⟩ := h
  obtain ⟨cx, rfl, hcx⟩ := hr
  cases (show cx = .int 0 from hcx)
  rw [vH_pureEq fF_pure hH] at p1
  exact p1
