/-! NO CALL CHANGES WHAT KIND A CELL IS OF. -/
theorem pmem_tag {sy : Bool} {c : Nat} {ini : Bool} {i : Instr} {a k : Nat} {st st' : List Value} {L L' : pHp} (h : pMem sy c ini i a st L = some (k, st', L')) : L' = L ∨ (∃ (o : Nat) (q q' : pOb), L[o]? = some q ∧ q'.1 = q.1 ∧ L' = L.set o q') ∨ ∃ q, L' = L ++ [q] := by
  unfold pMem at h
  split at h
  all_goals first | (cases h; done) | skip
  · split at h
    · split at h
      · split at h
        · obtain ⟨v, -, h2⟩ := omap h
          cases h2
          exact Or.inl rfl
        · cases h
      · cases h
    · cases h
  · split at h
    · split at h
      · rename_i q hq
        split at h
        · cases h
          exact Or.inr (Or.inl ⟨_, q, _, hq, by rfl, rfl⟩)
        · cases h
      · cases h
    · cases h
  iterate 4
    · split at h
      · split at h
        · split at h
          · obtain ⟨v, -, h2⟩ := omap h
            cases h2
            exact Or.inl rfl
          · cases h
        · cases h
      · cases h
  iterate 3
    · split at h
      · split at h
        · rename_i q hq
          split at h
          · obtain ⟨v, -, h2⟩ := omap h
            cases h2
            exact Or.inr (Or.inl ⟨_, q, _, hq, by rfl, rfl⟩)
          · cases h
        · cases h
      · cases h
  · split at h
    · split at h
      · rename_i q hq
        split at h
        · split at h
          · obtain ⟨v, -, h2⟩ := omap h
            cases h2
            exact Or.inr (Or.inl ⟨_, q, _, hq, by rfl, rfl⟩)
          · cases h
        · cases h
      · cases h
    · cases h
  · split at h
    · split at h
      · split at h
        · cases h
          exact Or.inl rfl
        · cases h
      · cases h
    · cases h
  · split at h
    · cases h
      exact Or.inr (Or.inr ⟨_, rfl⟩)
    · cases h
  · split at h
    · split at h
      · split at h
        · cases h
        · cases h
          exact Or.inr (Or.inr ⟨_, rfl⟩)
      · cases h
    · cases h
  · split at h
    · split at h
      · cases h
        exact Or.inr (Or.inr ⟨_, rfl⟩)
      · cases h
    · cases h
  iterate 3
    · split at h
      · cases h
        exact Or.inl rfl
      · cases h
  · split at h
    · split at h
      · split at h
        · rename_i w hw
          split at h
          · rename_i hc
            cases h
            obtain ⟨-, -, -, -, -, -, h4, h5, -⟩ := hc
            exact Or.inr (Or.inl ⟨_, w, _, hw, by rfl, rfl⟩)
          · cases h
        · cases h
      · cases h
    · cases h
  · split at h
    · split at h
      · cases h
        exact Or.inl rfl
      · cases h
    · cases h
def pTg (L L' : pHp) : Prop := ∀ (k : Nat) (q : pOb), L[k]? = some q → ∃ q' : pOb, L'[k]? = some q' ∧ q'.1 = q.1
theorem pTg.refl {L : pHp} : pTg L L := fun _ q h => ⟨q, h, rfl⟩
theorem pTg.trans {A B C : pHp} (h1 : pTg A B) (h2 : pTg B C) : pTg A C := by
  intro k q h
  obtain ⟨q1, e1, t1⟩ := h1 k q h
  obtain ⟨q2, e2, t2⟩ := h2 k q1 e1
  exact ⟨q2, e2, t2.trans t1⟩
theorem pkind_tag {L L' : pHp} (h : L' = L ∨ (∃ (o : Nat) (q q' : pOb), L[o]? = some q ∧ q'.1 = q.1 ∧ L' = L.set o q') ∨ ∃ q, L' = L ++ [q]) : pTg L L' := by
  rcases h with rfl | ⟨o, q, q', h1, h2, rfl⟩ | ⟨q, rfl⟩
  · exact pTg.refl
  · intro k z hz
    by_cases hk : o = k
    · subst hk
      have hlt := (List.getElem?_eq_some_iff.mp h1).1
      refine ⟨q', by rw [List.getElem?_set_self hlt], ?_⟩
      cases h1.symm.trans hz
      exact h2
    · exact ⟨z, by rw [List.getElem?_set_ne hk]; exact hz, rfl⟩
  · intro k z hz
    exact ⟨z, by rw [List.getElem?_append_left (List.getElem?_eq_some_iff.mp hz).1]; exact hz, rfl⟩
theorem pstep_tag {M : pMe} {e : pEn} {lv : pLv} {st : List Value} {L : pHp} {t : Nat × pLv × List Value × pHp} (h : pStp M e lv st L t) : pTg L t.2.2.2 := by
  rcases h with ⟨st', -, rfl⟩ | ⟨lv', st', -, rfl⟩ | ⟨pc', st', -, rfl⟩ | ⟨st', -, rfl⟩ | ⟨st', L', h1, rfl⟩
  · exact pTg.refl
  · exact pTg.refl
  · exact pTg.refl
  · exact pTg.refl
  · exact pkind_tag (pmem_tag h1)
theorem ploop_tag {call : pCl} (hc : ∀ K args L rv Lf, call K args L rv Lf → pTg L Lf) {M : pMe} {tab : List pEn} : ∀ (n pc : Nat) (lv : pLv) (st : List Value) (L : pHp) (rv : Option Value) (Lf : pHp), pLoop call M tab n pc lv st L rv Lf → pTg L Lf := by
  intro n
  induction n with
  | zero => intro pc lv st L rv Lf h; exact h.elim
  | succ n ih =>
    intro pc lv st L rv Lf h
    obtain ⟨e, -, -, -, h⟩ := h
    rcases h with ⟨-, rfl⟩ | ⟨t, h1, h2⟩ | ⟨q, r1, L1, -, h2, h3⟩
    · exact pTg.refl
    · exact (pstep_tag h1).trans (ih _ _ _ _ _ _ h2)
    · exact (hc _ _ _ _ _ h2).trans (ih _ _ _ _ _ _ h3)
theorem pex_tag : ∀ (d K : Nat) (args : List Value) (L : pHp) (rv : Option Value) (Lf : pHp), pEx d K args L rv Lf → pTg L Lf := by
  intro d
  induction d with
  | zero => intro K args L rv Lf h; exact h.elim
  | succ d ih =>
    intro K args L rv Lf h
    obtain ⟨-, n, h⟩ := h
    exact ploop_tag ih _ _ _ _ _ _ _ h
