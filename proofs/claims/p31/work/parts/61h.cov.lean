/-! FROM THE CALLS WITH UNKNOWNS TO THE CALLS THEMSELVES. -/
def aPv (v : Value) : Bool := match v with
  | .float u => decide (u.toNat < 8)
  | _ => true
def aPh (L : pHp) : Bool := L.all (fun o => o.2.all aPv)
theorem vR_pure {ρ : Nat → Int32} {v : Value} (h : aPv v = true) : vR ρ v v := by
  cases v with
  | float u =>
    have h1 : u.toNat < 8 := of_decide_eq_true h
    show (if u.toNat < 8 then Value.float u = .float u else _)
    rw [if_pos h1]
  | _ => rfl
theorem vL_pure {ρ : Nat → Int32} : ∀ {l : List Value}, l.all aPv = true → vL ρ l l
  | [], _ => rfl
  | a :: l, h => by
    rw [List.all_cons, Bool.and_eq_true] at h
    exact ⟨a, l, rfl, vR_pure h.1, vL_pure h.2⟩
theorem vH_pure {ρ : Nat → Int32} : ∀ {L : pHp}, aPh L = true → vH ρ L L
  | [], _ => rfl
  | o :: L, h => by
    unfold aPh at h
    rw [List.all_cons, Bool.and_eq_true] at h
    exact ⟨o.2, L, rfl, vL_pure h.1, vH_pure h.2⟩
theorem vL_pureEq {ρ : Nat → Int32} : ∀ {l m : List Value}, l.all aPv = true → vL ρ l m → m = l
  | [], _, _, h => h
  | a :: l, m, hp, ⟨b, m', h1, h2, h3⟩ => by
    rw [List.all_cons, Bool.and_eq_true] at hp
    have e1 : b = a := by
      cases a with
      | float u =>
        have hu : u.toNat < 8 := of_decide_eq_true hp.1
        have h2' : (if u.toNat < 8 then b = .float u else if u.toNat = 4294967295 then ∃ x, b = .int x else b = .int (ρ (u.toNat - 8))) := h2
        rw [if_pos hu] at h2'
        exact h2'
      | _ => exact h2
    rw [h1, e1, vL_pureEq hp.2 h3]
theorem vH_pureEq {ρ : Nat → Int32} : ∀ {L M : pHp}, aPh L = true → vH ρ L M → M = L
  | [], _, _, h => h
  | o :: L, M, hp, ⟨es, m', h1, h2, h3⟩ => by
    unfold aPh at hp
    rw [List.all_cons, Bool.and_eq_true] at hp
    rw [h1, vL_pureEq hp.1 h2, vH_pureEq hp.2 h3]
theorem aEn_nil {ρ : Nat → Int32} : aEn ρ [] := fun k q h => by cases h
theorem cov_x : pEx 12 0 [.ref 0] [(11, pDef 11)] none fX := by
  obtain ⟨e1, r, L', cr, cL, p1, -, hr, hH, h⟩ := aSound (ρ := fun _ => 0) (sm := oSm) (N := 100000) oSm_ok 12 _ _ _ _ _ fx_ok [.ref 0] [(11, pDef 11)] aEn_nil (vL_pure rfl) (vH_pure (by decide +kernel))
  rw [Bool.and_eq_true, decide_eq_true_eq, decide_eq_true_eq] at h
  obtain ⟨rfl, rfl⟩ := h
  cases (show cr = none from hr)
  rw [vH_pureEq (by decide +kernel) hH] at p1
  exact p1
theorem cov_m : pEx 12 166 [.ref 91] (fX ++ [(12, pDef 12)]) none (fX ++ fM) := by
  obtain ⟨e1, r, L', cr, cL, p1, -, hr, hH, h⟩ := aSound (ρ := fun _ => 0) (sm := oSm) (N := 100000) oSm_ok 12 _ _ _ _ _ fm_ok [.ref 91] (fX ++ [(12, pDef 12)]) aEn_nil (vL_pure rfl) (vH_pure (by decide +kernel))
  rw [Bool.and_eq_true, decide_eq_true_eq, decide_eq_true_eq] at h
  obtain ⟨rfl, rfl⟩ := h
  cases (show cr = none from hr)
  rw [vH_pureEq (by decide +kernel) hH] at p1
  exact p1
