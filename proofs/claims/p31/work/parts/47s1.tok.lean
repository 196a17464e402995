/-! THE TOKEN AT HAND, by what the readers look at. -/
section TOK
variable {M : sM}
theorem tk_at (hI : sI M) (hr : M 4 100 ≠ 0) (h1 : M 4 210 = 1) (hb : ¬ ((M 4 211).toNat < (M 4 101).toNat ∧ (M 92 (M 4 211).toNat = 10 ∨ M 92 (M 4 211).toNat = 32))) : (M 3 44, M 3 45, M 3 46, M 3 47, M 3 50, M 3 51) = tAt (M 92) (M 4 101).toNat (M 4 211).toNat (M 4 107) (M 4 108) := by
  obtain ⟨a1, a2, a3⟩ := gx_xS2 hI hr
  obtain ⟨b1, b2, b3⟩ := gx_xS8 hI h1
  rw [a3, ← b3, tto_at hb]
theorem tk_of {k v p e s w : Int} (hI : sI M) (hr : M 4 100 ≠ 0) (h1 : M 4 210 = 1) (hb : ¬ ((M 4 211).toNat < (M 4 101).toNat ∧ (M 92 (M 4 211).toNat = 10 ∨ M 92 (M 4 211).toNat = 32))) (ht : tAt (M 92) (M 4 101).toNat (M 4 211).toNat (M 4 107) (M 4 108) = (k, v, p, e, s, w)) : M 3 44 = k ∧ M 3 45 = v ∧ M 3 46 = p ∧ M 3 47 = e ∧ M 3 50 = s ∧ M 3 51 = w := by
  have h := (tk_at hI hr h1 hb).trans ht
  simp only [Prod.mk.injEq] at h
  exact h
theorem ten_gt {g : Nat → Int} {lo hi : Int} {n q : Nat} (h : q < tEn g lo hi n q) : q < n ∧ (lo ≤ g q ∧ g q ≤ hi) := by
  rcases Classical.em (q < n ∧ (lo ≤ g q ∧ g q ≤ hi)) with h1 | h1
  · exact h1
  · rw [ten_at h1] at h
    exact absurd h (Nat.lt_irrefl _)
theorem xs_57 {M : sM} (hI : sI M) {w : Nat} (h : w < 24) : tLa[w]? = some (M 57 w) := gx_xSL hI w h
/-- a byte of the reference's tape -/
theorem xs_92 {M : sM} (hI : sI M) {k : Nat} (h : k < 700) : 0 ≤ M 92 k ∧ M 92 k ≤ 255 := by
  have e : sRg 92 k = some (0, 255) := by
    unfold sRg
    show cond (Nat.blt k 700) ((([some ((0 : Int), (255 : Int))] : List (Option (Int × Int)))[k % 1]?).getD none) none = _
    rw [show Nat.blt k 700 = true from Nat.ble_eq_true_of_le h, Nat.mod_one]
    rfl
  exact hI.1 92 k (0, 255) e
/-- the class's byte is the reference's -/
theorem xs_by (hI : sI M) (hr : M 4 100 ≠ 0) {k : Nat} (h : (k : Int) < M 4 101) : (0 ≤ M 92 k ∧ M 92 k ≤ 255) ∧ (0 ≤ M 1 k → M 92 k = M 1 k) ∧ (M 1 k < 0 → M 92 k = M 1 k + 256) ∧ (-128 ≤ M 1 k ∧ M 1 k ≤ 127) := by
  obtain ⟨a1, a2, a3⟩ := gx_xS1 hI hr
  have hb := xs_92 hI (k := k) (by omega)
  have e := a3 k h
  unfold tSn at e
  refine ⟨hb, fun h1 => ?_, fun h1 => ?_, ?_⟩
  · split at e <;> omega
  · split at e <;> omega
  · split at e <;> omega
/-- the byte that the reference looks at -/
theorem xs_hr (hI : sI M) (h : M 91 27 < M 91 26) : M 91 990 = M 92 (M 91 27).toNat := by
  have hH : M 91 990 = xH M := hI.2.2.1
  rw [hH]
  unfold xH
  rw [if_pos h]
end TOK
theorem tpw_0 {j : Nat} (h : 6 ≤ j) : tPw j = 0 := by
  obtain ⟨i, rfl⟩ : ∃ i, j = i + 6 := ⟨j - 6, by omega⟩
  rfl
/-- all bytes of a row are of its kind -/
theorem ten_all {g : Nat → Int} {lo hi : Int} {n : Nat} : ∀ {q i : Nat}, q + i < tEn g lo hi n q → (q ≤ n) → lo ≤ g (q + i) ∧ g (q + i) ≤ hi
  | q, 0, h, _ => (ten_gt h).2
  | q, i + 1, h, hq => by
    have h1 : q < tEn g lo hi n q := by omega
    have h2 := ten_gt h1
    rw [ten_on h2.1 h2.2] at h
    have h3 := ten_all (g := g) (lo := lo) (hi := hi) (n := n) (q := q + 1) (i := i) (by omega) (by omega)
    rw [show q + (i + 1) = q + 1 + i by omega]
    exact h3
theorem i32_nat {x : Nat} (h : x < 2147483648) : (Int32.ofInt (x : Int)).toBitVec = BitVec.ofNat 32 x := by
  show (Int32.ofInt (x : Int)).toBitVec = _
  rw [Int32.toBitVec_ofInt, BitVec.ofInt_natCast]
theorem xop5_nat {x y : Nat} (hx : x < 2147483648) (hy : y < 2147483648) (h : x ||| y < 2147483648) : xop 5 (x : Int) (y : Int) = ((x ||| y : Nat) : Int) := by
  show (Int32.ofInt (x : Int) ||| Int32.ofInt (y : Int)).toInt = _
  show (Int32.ofInt (x : Int) ||| Int32.ofInt (y : Int)).toBitVec.toInt = _
  rw [Int32.toBitVec_or, i32_nat hx, i32_nat hy, BitVec.toInt_eq_toNat_of_lt, BitVec.toNat_or, BitVec.toNat_ofNat, BitVec.toNat_ofNat, Nat.mod_eq_of_lt (by omega), Nat.mod_eq_of_lt (by omega)]
  rw [BitVec.toNat_or, BitVec.toNat_ofNat, BitVec.toNat_ofNat, Nat.mod_eq_of_lt (by omega), Nat.mod_eq_of_lt (by omega)]
  omega
theorem xor_add {a b : Int} {s : Nat} (ha : 0 ≤ a) (hb : 0 ≤ b) (hs : b < 2 ^ s) (h : a * 2 ^ s + b < 2147483648) : xop 5 (a * 2 ^ s) b = a * 2 ^ s + b := by
  obtain ⟨n, rfl⟩ := Int.eq_ofNat_of_zero_le ha
  obtain ⟨m, rfl⟩ := Int.eq_ofNat_of_zero_le hb
  have e1 : ((n : Int) * 2 ^ s) = ((n * 2 ^ s : Nat) : Int) := by push_cast; rfl
  have hs' : m < 2 ^ s := by
    have : ((m : Int)) < ((2 ^ s : Nat) : Int) := by push_cast; exact hs
    omega
  have e2 : n * 2 ^ s + m = n * 2 ^ s ||| m := by
    have := Nat.shiftLeft_add_eq_or_of_lt hs' n
    rw [Nat.shiftLeft_eq] at this
    exact this
  rw [e1] at h ⊢
  have h' : n * 2 ^ s + m < 2147483648 := by omega
  rw [xop5_nat (by omega) (by omega) (by rw [← e2]; exact h'), ← e2]
  omega
theorem xor_0 {a : Int} (ha : 0 ≤ a) (h : a < 2147483648) : a = xop 5 a 0 := by
  have := xor_add (a := a) (b := 0) (s := 0) ha (by omega) (by decide) (by omega)
  rw [show a * 2 ^ 0 = a by omega] at this
  omega
theorem xsh_0 {l : Int} (h0 : 0 ≤ l) (h1 : l ≤ 31) : xop 4 l 25 = 33554432 * l := by
  have t : ∀ k : Fin 32, xop 4 ((k : Nat) : Int) 25 = 33554432 * ((k : Nat) : Int) := by decide +kernel
  have := t ⟨l.toNat, by omega⟩
  rw [show (((⟨l.toNat, by omega⟩ : Fin 32) : Nat) : Int) = l from Int.toNat_of_nonneg h0] at this
  exact this
theorem xsh_1 {l : Int} (h0 : 0 ≤ l) (h1 : l ≤ 31) : xop 4 l 20 = 1048576 * l := by
  have t : ∀ k : Fin 32, xop 4 ((k : Nat) : Int) 20 = 1048576 * ((k : Nat) : Int) := by decide +kernel
  have := t ⟨l.toNat, by omega⟩
  rw [show (((⟨l.toNat, by omega⟩ : Fin 32) : Nat) : Int) = l from Int.toNat_of_nonneg h0] at this
  exact this
theorem xsh_2 {l : Int} (h0 : 0 ≤ l) (h1 : l ≤ 31) : xop 4 l 15 = 32768 * l := by
  have t : ∀ k : Fin 32, xop 4 ((k : Nat) : Int) 15 = 32768 * ((k : Nat) : Int) := by decide +kernel
  have := t ⟨l.toNat, by omega⟩
  rw [show (((⟨l.toNat, by omega⟩ : Fin 32) : Nat) : Int) = l from Int.toNat_of_nonneg h0] at this
  exact this
theorem xsh_3 {l : Int} (h0 : 0 ≤ l) (h1 : l ≤ 31) : xop 4 l 10 = 1024 * l := by
  have t : ∀ k : Fin 32, xop 4 ((k : Nat) : Int) 10 = 1024 * ((k : Nat) : Int) := by decide +kernel
  have := t ⟨l.toNat, by omega⟩
  rw [show (((⟨l.toNat, by omega⟩ : Fin 32) : Nat) : Int) = l from Int.toNat_of_nonneg h0] at this
  exact this
theorem xsh_4 {l : Int} (h0 : 0 ≤ l) (h1 : l ≤ 31) : xop 4 l 5 = 32 * l := by
  have t : ∀ k : Fin 32, xop 4 ((k : Nat) : Int) 5 = 32 * ((k : Nat) : Int) := by decide +kernel
  have := t ⟨l.toNat, by omega⟩
  rw [show (((⟨l.toNat, by omega⟩ : Fin 32) : Nat) : Int) = l from Int.toNat_of_nonneg h0] at this
  exact this
theorem xsh_5 {l : Int} (h0 : 0 ≤ l) (h1 : l ≤ 31) : xop 4 l 0 = 1 * l := by
  have t : ∀ k : Fin 32, xop 4 ((k : Nat) : Int) 0 = 1 * ((k : Nat) : Int) := by decide +kernel
  have := t ⟨l.toNat, by omega⟩
  rw [show (((⟨l.toNat, by omega⟩ : Fin 32) : Nat) : Int) = l from Int.toNat_of_nonneg h0] at this
  exact this
theorem tpk_6 (g : Nat → Int) (q : Nat) : ∀ i, tPk g q (6 + i) = tPk g q 6
  | 0 => rfl
  | i + 1 => by
    show tPk g q (6 + i) + (g (q + (6 + i)) - 96) * tPw (6 + i) = _
    rw [tpw_0 (by omega), tpk_6 g q i]
    omega
theorem tpk_b {g : Nat → Int} {q l : Nat} (h : ∀ i, i < l → 97 ≤ g (q + i) ∧ g (q + i) ≤ 122) : 0 ≤ tPk g q l ∧ tPk g q l ≤ 1073741823 := by
  have w0 : tPw 0 = 33554432 := rfl
  have w1 : tPw 1 = 1048576 := rfl
  have w2 : tPw 2 = 32768 := rfl
  have w3 : tPw 3 = 1024 := rfl
  have w4 : tPw 4 = 32 := rfl
  have w5 : tPw 5 = 1 := rfl
  rcases Nat.lt_or_ge l 6 with h6 | h6
  · have e : l = 0 ∨ l = 1 ∨ l = 2 ∨ l = 3 ∨ l = 4 ∨ l = 5 := by omega
    rcases e with rfl | rfl | rfl | rfl | rfl | rfl
    · exact ⟨Int.le_refl _, by show (0 : Int) ≤ _; decide⟩
    · have h0 := h 0 (by omega)
      simp only [tPk, w0]; omega
    · have h0 := h 0 (by omega); have h1 := h 1 (by omega)
      simp only [tPk, w0, w1]; omega
    · have h0 := h 0 (by omega); have h1 := h 1 (by omega); have h2 := h 2 (by omega)
      simp only [tPk, w0, w1, w2]; omega
    · have h0 := h 0 (by omega); have h1 := h 1 (by omega); have h2 := h 2 (by omega); have h3 := h 3 (by omega)
      simp only [tPk, w0, w1, w2, w3]; omega
    · have h0 := h 0 (by omega); have h1 := h 1 (by omega); have h2 := h 2 (by omega); have h3 := h 3 (by omega); have h4 := h 4 (by omega)
      simp only [tPk, w0, w1, w2, w3, w4]; omega
  · obtain ⟨i, rfl⟩ : ∃ i, l = 6 + i := ⟨l - 6, by omega⟩
    rw [tpk_6]
    have h0 := h 0 (by omega); have h1 := h 1 (by omega); have h2 := h 2 (by omega); have h3 := h 3 (by omega); have h4 := h 4 (by omega); have h5 := h 5 (by omega)
    simp only [tPk, w0, w1, w2, w3, w4, w5]; omega
