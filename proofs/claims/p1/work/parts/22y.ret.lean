/-! A METHOD THAT SAYS THAT IT ANSWERS AN INT DOES SO. -/
theorem pret_int {rt : Option FieldType} {ty : FieldType} (hr : rt = some ty) (hty : ty ≠ .long) {e : pEn} {st : List Value} {rv : Option Value} (h : pRet rt e st = some rv) : ∃ x : Int32, rv = some (.int x) := by
  subst hr
  unfold pRet at h
  split at h
  · split at h
    · split at h
      · split at h
        · cases h; exact ⟨_, rfl⟩
        · cases h
      · cases h
    · split at h
      · rename_i h1; cases h1; exact absurd rfl hty
      · cases h
    · split at h
      · rename_i h1; cases h1
      · cases h
    · cases h
  · cases h
theorem ploop_int {call : pCl} {M : pMe} {tab : List pEn} {ty : FieldType} (hr : M.2.2.2.2.1 = some ty) (hty : ty ≠ .long) : ∀ (n pc : Nat) (lv : pLv) (st : List Value) (L : pHp) (rv : Option Value) (Lf : pHp), pLoop call M tab n pc lv st L rv Lf → ∃ x : Int32, rv = some (.int x) := by
  intro n
  induction n with
  | zero => intro _ _ _ _ _ _ h; exact h.elim
  | succ n ih =>
    intro pc lv st L rv Lf h
    obtain ⟨e, -, -, -, h⟩ := h
    rcases h with ⟨h, -⟩ | ⟨t, -, h⟩ | ⟨q, r1, L1, -, -, h⟩
    · exact pret_int hr hty h
    · exact ih _ _ _ _ _ _ h
    · exact ih _ _ _ _ _ _ h
theorem pex_int {d K : Nat} {as : List Value} {L Lf : pHp} {v : Value} {ty : FieldType} (hr : (pMt K).2.2.2.2.1 = some ty) (hty : ty ≠ .long) (h : pEx d K as L (some v) Lf) : ∃ x : Int32, v = .int x := by
  cases d with
  | zero => exact h.elim
  | succ d =>
    obtain ⟨-, n, h⟩ := h
    obtain ⟨x, hx⟩ := ploop_int hr hty _ _ _ _ _ _ _ h
    exact ⟨x, Option.some.inj hx⟩
