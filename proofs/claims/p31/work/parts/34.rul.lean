/-! MORE RULES: what an instruction pushes without saying more of it than is needed; locals that are not looked at again. -/
theorem i32_of (z : Int32) : Int32.ofInt z.toInt = z := Int32.ofInt_toInt z
theorem i64_of (z : Int64) : Int64.ofInt z.toInt = z := Int64.ofInt_toInt z
theorem i32_rng (z : Int32) : inR z.toInt := ⟨Int32.minValue_le_toInt z, by have := Int32.toInt_le z; exact this⟩
def inL (x : Int) : Prop := -9223372036854775808 ≤ x ∧ x ≤ 9223372036854775807
theorem inL_to {x : Int} (h : inL x) : (Int64.ofInt x).toInt = x := Int64.toInt_ofInt_of_le (by have := h.1; omega) (by have := h.2; omega)
theorem i64_rng (z : Int64) : inL z.toInt := ⟨Int64.minValue_le_toInt z, by have := Int64.toInt_le z; exact this⟩
def lvR (lv lv' : pLv) : Prop := ∀ q ∈ lv, pGet lv' q.1 = some q.2
theorem zget_mem : ∀ {lv : pLv} {k : Nat} {v : Value}, pGet lv k = some v → (k, v) ∈ lv
  | [], _, _, h => nomatch h
  | q :: l, k, v, h => by
    unfold pGet at h
    by_cases hq : q.1 = k
    · rw [if_pos hq] at h
      cases h
      subst hq
      exact List.mem_cons_self
    · rw [if_neg hq] at h
      exact List.mem_cons_of_mem _ (zget_mem h)
theorem lvr_get {lv lv' : pLv} (h : lvR lv lv') {k : Nat} {v : Value} (hg : pGet lv k = some v) : pGet lv' k = some v := h _ (zget_mem hg)
theorem zget_filter : ∀ {lv : pLv} {k : Nat} {v : Value} {p : Nat × Value → Bool}, pGet lv k = some v → p (k, v) = true → pGet (lv.filter p) k = some v
  | [], _, _, _, h, _ => nomatch h
  | q :: l, k, v, p, h, hp => by
    unfold pGet at h
    by_cases hq : q.1 = k
    · rw [if_pos hq] at h
      cases h
      subst hq
      rw [List.filter_cons_of_pos (by exact hp)]
      unfold pGet
      rw [if_pos rfl]
    · rw [if_neg hq] at h
      have ih := zget_filter (p := p) h hp
      by_cases hpq : p q = true
      · rw [List.filter_cons_of_pos hpq]
        unfold pGet
        rw [if_neg hq]
        exact ih
      · rw [List.filter_cons_of_neg hpq]
        exact ih
theorem lvr_cons {lv lv' : pLv} {i : Nat} {v : Value} {p : Nat × Value → Bool} (h : lvR lv lv') (hp : ∀ q : Nat × Value, p q = true → q.1 ≠ i) : lvR ((i, v) :: lv.filter p) ((i, v) :: lv'.filter p) := by
  intro q hq
  rcases List.mem_cons.mp hq with rfl | hq
  · unfold pGet
    rw [if_pos rfl]
  · have h1 := List.mem_filter.mp hq
    unfold pGet
    rw [if_neg (fun z => hp q h1.2 z.symm)]
    exact zget_filter (h q h1.1) h1.2
theorem lvr_put1 {lv lv' : pLv} {i : Nat} {v : Value} (h : lvR lv lv') : lvR (pPut1 lv i v) (pPut1 lv' i v) := lvr_cons h (fun q hq z => by
  rw [Bool.and_eq_true, Bool.not_eq_true', beq_eq_false_iff_ne] at hq
  exact hq.1 z)
theorem lvr_put2 {lv lv' : pLv} {i : Nat} {v : Value} (h : lvR lv lv') : lvR (pPut2 lv i v) (pPut2 lv' i v) := lvr_cons h (fun q hq z => by
  rw [Bool.and_eq_true, Bool.not_eq_true', beq_eq_false_iff_ne] at hq
  exact hq.1 z)
theorem zloc_mono {mx : Nat} {i : Instr} {lv lv' : pLv} {st : List Value} {n : Nat} {lv1 : pLv} {st1 : List Value} (hr : lvR lv lv') (h : pLoc false mx i lv st = some (n, lv1, st1)) : ∃ lv2, pLoc false mx i lv' st = some (n, lv2, st1) ∧ lvR lv1 lv2 := by
  unfold pLoc at h ⊢
  split at h
  · split at h
    · rename_i v hg
      split at h
      · rename_i hc
        cases h
        exact ⟨lv', by rw [lvr_get hr hg]; exact if_pos hc, hr⟩
      · cases h
    · cases h
  · split at h
    · rename_i v hg
      split at h
      · rename_i hc
        cases h
        exact ⟨lv', by rw [lvr_get hr hg]; exact if_pos hc, hr⟩
      · cases h
    · cases h
  · split at h
    · rename_i x hg
      cases h
      exact ⟨lv', by rw [lvr_get hr hg], hr⟩
    · cases h
  · split at h
    · rename_i x hg
      cases h
      exact ⟨lv', by rw [lvr_get hr hg], hr⟩
    · cases h
  · split at h
    · rename_i v hg
      split at h
      · rename_i hc
        cases h
        exact ⟨lv', by rw [lvr_get hr hg]; exact if_pos hc, hr⟩
      · cases h
    · cases h
  · split at h
    · rename_i v hg
      split at h
      · rename_i hc
        cases h
        exact ⟨lv', by rw [lvr_get hr hg]; exact if_pos hc, hr⟩
      · cases h
    · cases h
  · split at h
    · split at h
      · rename_i hc
        cases h
        exact ⟨_, if_pos hc, lvr_put1 hr⟩
      · cases h
    · cases h
  · split at h
    · split at h
      · rename_i hc
        cases h
        exact ⟨_, if_pos hc, lvr_put1 hr⟩
      · cases h
    · cases h
  · split at h
    · split at h
      · rename_i hc
        cases h
        exact ⟨_, if_pos hc, lvr_put2 hr⟩
      · cases h
    · cases h
  · split at h
    · split at h
      · rename_i hc
        cases h
        exact ⟨_, if_pos hc, lvr_put2 hr⟩
      · cases h
    · cases h
  · split at h
    · split at h
      · rename_i hc
        cases h
        exact ⟨_, if_pos hc, lvr_put1 hr⟩
      · cases h
    · cases h
  · split at h
    · split at h
      · rename_i hc
        cases h
        exact ⟨_, if_pos hc, lvr_put1 hr⟩
      · cases h
    · cases h
  · split at h
    · rename_i x hg
      split at h
      · rename_i hc
        cases h
        exact ⟨_, by rw [lvr_get hr hg]; exact if_pos hc, lvr_put1 hr⟩
      · cases h
    · cases h
  · cases h
theorem zloop_mono {call : pCl} {M : pMe} {tab : List pEn} : ∀ (n pc : Nat) (lv lv' : pLv) (st : List Value) (L : pHp) (rv : Option Value) (Lf : pHp), lvR lv lv' → pLoop call M tab n pc lv st L rv Lf → pLoop call M tab n pc lv' st L rv Lf := by
  intro n
  induction n with
  | zero => intro _ _ _ _ _ _ _ _ h; exact h.elim
  | succ n ih =>
    intro pc lv lv' st L rv Lf hr h
    obtain ⟨e, he, hp, ha, h⟩ := h
    refine ⟨e, he, hp, ha, ?_⟩
    rcases h with h | ⟨t, hs, h⟩ | ⟨q, r1, L1, hq, hc, h⟩
    · exact Or.inl h
    · refine Or.inr (Or.inl ?_)
      rcases hs with ⟨st', h1, rfl⟩ | ⟨lv1, st', h1, rfl⟩ | ⟨pc', st', h1, rfl⟩ | ⟨st', h1, rfl⟩ | ⟨st', L', h1, rfl⟩
      · exact ⟨(_, lv', _, _), Or.inl ⟨_, h1, rfl⟩, ih _ _ _ _ _ _ _ hr h⟩
      · obtain ⟨lv2, h2, h3⟩ := zloc_mono hr h1
        exact ⟨(_, lv2, _, _), Or.inr (Or.inl ⟨_, _, h2, rfl⟩), ih _ _ _ _ _ _ _ h3 h⟩
      · exact ⟨(_, lv', _, _), Or.inr (Or.inr (Or.inl ⟨_, _, h1, rfl⟩)), ih _ _ _ _ _ _ _ hr h⟩
      · exact ⟨(_, lv', _, _), Or.inr (Or.inr (Or.inr (Or.inl ⟨_, h1, rfl⟩))), ih _ _ _ _ _ _ _ hr h⟩
      · exact ⟨(_, lv', _, _), Or.inr (Or.inr (Or.inr (Or.inr ⟨_, _, h1, rfl⟩))), ih _ _ _ _ _ _ _ hr h⟩
    · exact Or.inr (Or.inr ⟨q, r1, L1, hq, hc, ih _ _ _ _ _ _ _ hr h⟩)
section SR3
variable {lay : List sCl} {d K : Nat} {J : pHp} {pc a : Nat} {lv : sLv} {st : List sV} {M : sM} {Q : Option sV → sM → Prop}
theorem sr_mono {lv' : sLv} (h : ∀ q ∈ lv, sGet lv' q.1 = some q.2) (k : sR lay d K J pc lv st M Q) : sR lay d K J pc lv' st M Q := by
  obtain ⟨n, rv, M', h1, h2⟩ := k
  refine ⟨n, rv, M', zloop_mono _ _ _ _ _ _ _ _ ?_ h1, h2⟩
  intro q hq
  obtain ⟨q', hq', rfl⟩ := List.mem_map.mp hq
  show pGet (sL lv') q'.1 = _
  rw [sl_get, h q' hq']
  rfl
end SR3
