/-! THE TOKEN AT HAND, by what the readers look at. -/
section TOK
variable {M : sM}
theorem tk_at (hI : sI M) (hr : M 4 100 ≠ 0) (h1 : M 4 210 = 1) (hb : ¬ ((M 4 211).toNat < (M 4 101).toNat ∧ (M 92 (M 4 211).toNat = 10 ∨ M 92 (M 4 211).toNat = 32))) : (M 3 44, M 3 45, M 3 46, M 3 47, M 3 50, M 3 51) = tAt (M 92) (M 4 101).toNat (M 4 211).toNat (M 4 107) (M 4 108) := by
  obtain ⟨a1, a2, a3⟩ := gx_xS2 hI hr
  obtain ⟨b1, b2, b3⟩ := gx_xS8 hI h1
  rw [a3, ← b3, tto_at hb]
theorem tk_of {k v p e s w : Int} (hI : sI M) (hr : M 4 100 ≠ 0) (h1 : M 4 210 = 1) (hb : ¬ ((M 4 211).toNat < (M 4 101).toNat ∧ (M 92 (M 4 211).toNat = 10 ∨ M 92 (M 4 211).toNat = 32))) (ht : tAt (M 92) (M 4 101).toNat (M 4 211).toNat (M 4 107) (M 4 108) = (k, v, p, e, s, w)) : M 3 44 = k ∧ M 3 45 = v ∧ M 3 46 = p ∧ M 3 47 = e ∧ M 3 50 = s ∧ M 3 51 = w := by
  have h := (tk_at hI hr h1 hb).trans ht
  simp only [Prod.mk.injEq] at h
  exact h
theorem ten_gt {g : Nat → Int} {lo hi : Int} {n q : Nat} (h : q < tEn g lo hi n q) : q < n ∧ (lo ≤ g q ∧ g q ≤ hi) := by
  rcases Classical.em (q < n ∧ (lo ≤ g q ∧ g q ≤ hi)) with h1 | h1
  · exact h1
  · rw [ten_at h1] at h
    exact absurd h (Nat.lt_irrefl _)
theorem xs_57 {M : sM} (hI : sI M) {w : Nat} (h : w < 24) : tLa[w]? = some (M 57 w) := by
  have key : ∀ w : Nat, w < 24 → ∃ x, tLa[w]? = some x ∧ sRg 57 w = some (x, x) := by
    have t : (List.range 24).all (fun w => match tLa[w]? with | some x => sRg 57 w == some (x, x) | none => false) = true := by decide +kernel
    intro w hw
    have t2 := List.all_eq_true.mp t w (List.mem_range.mpr hw)
    split at t2
    · rename_i x hx
      exact ⟨x, hx, eq_of_beq t2⟩
    · cases t2
  obtain ⟨x, h1, h2⟩ := key w h
  have h3 := hI.1 57 w (x, x) h2
  have h4 : x ≤ M 57 w ∧ M 57 w ≤ x := h3
  rw [h1, show M 57 w = x by omega]
/-- a byte of the reference's tape -/
theorem xs_92 {M : sM} (hI : sI M) {k : Nat} (h : k < 700) : 0 ≤ M 92 k ∧ M 92 k ≤ 255 := by
  have e : sRg 92 k = some (0, 255) := by
    unfold sRg
    show cond (Nat.blt k 700) ((([some ((0 : Int), (255 : Int))] : List (Option (Int × Int)))[k % 1]?).getD none) none = _
    rw [show Nat.blt k 700 = true from Nat.ble_eq_true_of_le h, Nat.mod_one]
    rfl
  exact hI.1 92 k (0, 255) e
/-- the class's byte is the reference's -/
theorem xs_by (hI : sI M) (hr : M 4 100 ≠ 0) {k : Nat} (h : (k : Int) < M 4 101) : (0 ≤ M 92 k ∧ M 92 k ≤ 255) ∧ (0 ≤ M 1 k → M 92 k = M 1 k) ∧ (M 1 k < 0 → M 92 k = M 1 k + 256) := by
  obtain ⟨a1, a2, a3⟩ := gx_xS1 hI hr
  have hb := xs_92 hI (k := k) (by omega)
  have e := a3 k h
  unfold tSn at e
  refine ⟨hb, fun h1 => ?_, fun h1 => ?_⟩
  · split at e <;> omega
  · split at e <;> omega
/-- the byte that the reference looks at -/
theorem xs_hr (hI : sI M) (h : M 91 27 < M 91 26) : M 91 990 = M 92 (M 91 27).toNat := by
  have hH : M 91 990 = xH M := hI.2.2.1
  rw [hH]
  unfold xH
  rw [if_pos h]
end TOK
theorem tpw_0 {j : Nat} (h : 6 ≤ j) : tPw j = 0 := by
  obtain ⟨i, rfl⟩ : ∃ i, j = i + 6 := ⟨j - 6, by omega⟩
  rfl
