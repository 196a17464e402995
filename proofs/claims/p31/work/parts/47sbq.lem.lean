/-! FOR THE REFERENCE: what its tokens are, letters, bits. -/
theorem xt_92 {k : Nat} {r : Int × Int} (h : sRg 92 k = some r) : r = (0, 255) := xt_r (len := 700) rfl h
/-- kind and value against sort and value -/
def tKr (t : tTk) : Prop := (t.2.2.2.2.1 = 0 → t.1 = 18 + t.2.2.2.2.2 ∧ 0 ≤ t.2.2.2.2.2 ∧ t.2.2.2.2.2 ≤ 23) ∧ (t.2.2.2.2.1 = 1 → t.1 = 4 ∧ t.2.2.2.2.2 = t.2.1) ∧ (t.2.2.2.2.1 = 2 → t.1 = 3 ∧ 0 ≤ t.2.2.2.2.2 ∧ (t.2.2.2.2.2 ≤ 99999 → t.2.1 = t.2.2.2.2.2) ∧ (100000 ≤ t.2.2.2.2.2 → 100000 ≤ t.2.1)) ∧ (t.2.2.2.2.1 = 3 → (t.2.2.2.2.2 = 59 ∧ t.1 = 5) ∨ (t.2.2.2.2.2 = 40 ∧ t.1 = 6) ∨ (t.2.2.2.2.2 = 41 ∧ t.1 = 7) ∨ (t.2.2.2.2.2 = 43 ∧ t.1 = 8) ∨ (t.2.2.2.2.2 = 45 ∧ t.1 = 9) ∨ (t.2.2.2.2.2 = 42 ∧ t.1 = 10) ∨ (t.2.2.2.2.2 = 47 ∧ t.1 = 11) ∨ (60 ≤ t.2.2.2.2.2 ∧ t.2.2.2.2.2 ≤ 258 ∧ (t.2.2.2.2.2 ≤ 62 ∨ 256 ≤ t.2.2.2.2.2) ∧ 12 ≤ t.1 ∧ t.1 ≤ 17)) ∧ (t.2.2.2.2.1 = 4 → t.1 = 2) ∧ (t.2.2.2.2.1 = 5 → t.1 = 1)
theorem tnr_nu {g : Nat → Int} {q : Nat} : ∀ {l : Nat}, (∀ i, i < l → 48 ≤ g (q + i) ∧ g (q + i) ≤ 57) → 0 ≤ tNr g q l ∧ (tNr g q l ≤ 99999 → tNu g q l = tNr g q l) ∧ (100000 ≤ tNr g q l → 100000 ≤ tNu g q l)
  | 0, _ => ⟨Int.le_refl _, fun _ => rfl, fun h => absurd h (by show ¬ (100000 : Int) ≤ 0; decide)⟩
  | l + 1, h => by
    obtain ⟨a, b, c⟩ := tnr_nu (l := l) (fun i hi => h i (by omega))
    have hd := h l (by omega)
    show 0 ≤ (if 99999 < tNr g q l then tNr g q l else 10 * tNr g q l + g (q + l) - 48) ∧ ((if 99999 < tNr g q l then tNr g q l else 10 * tNr g q l + g (q + l) - 48) ≤ 99999 → (if tNu g q l * 10 + g (q + l) - 48 ≤ 1000000 then tNu g q l * 10 + g (q + l) - 48 else 1000000) = (if 99999 < tNr g q l then tNr g q l else 10 * tNr g q l + g (q + l) - 48)) ∧ (100000 ≤ (if 99999 < tNr g q l then tNr g q l else 10 * tNr g q l + g (q + l) - 48) → 100000 ≤ (if tNu g q l * 10 + g (q + l) - 48 ≤ 1000000 then tNu g q l * 10 + g (q + l) - 48 else 1000000))
    split
    · split <;> refine ⟨by omega, fun _ => by omega, fun _ => by omega⟩
    · have e := b (by omega)
      rw [e]
      split <;> refine ⟨by omega, fun _ => by omega, fun _ => by omega⟩
theorem tat_kr (g : Nat → Int) {n q : Nat} (v w : Int) (h : q ≤ n) : tKr (tAt g n q v w) := by
  unfold tAt
  split
  · exact ⟨fun h => absurd h (by show ¬ (4 : Int) = 0; decide), fun h => absurd h (by show ¬ (4 : Int) = 1; decide), fun h => absurd h (by show ¬ (4 : Int) = 2; decide), fun h => absurd h (by show ¬ (4 : Int) = 3; decide), fun _ => rfl, fun h => absurd h (by show ¬ (4 : Int) = 5; decide)⟩
  split
  · unfold tWo tKr tWk tWs tWv
    have hk := tki_b0 (tPk g q (tEn g 97 122 n q - q))
    dsimp only
    split
    · exact ⟨fun h => absurd h (by decide), fun h => absurd h (by decide), fun h => absurd h (by decide), fun h => absurd h (by decide), fun h => absurd h (by decide), fun _ => rfl⟩
    · split
      · rename_i h4
        exact ⟨fun h => absurd h (by decide), fun _ => ⟨h4, rfl⟩, fun h => absurd h (by decide), fun h => absurd h (by decide), fun h => absurd h (by decide), fun h => absurd h (by decide)⟩
      · exact ⟨fun _ => ⟨by omega, by omega, by omega⟩, fun h => absurd h (by decide), fun h => absurd h (by decide), fun h => absurd h (by decide), fun h => absurd h (by decide), fun h => absurd h (by decide)⟩
  split
  · rename_i hn _ hb
    have e := ten_b g 48 57 (n := n) (p := q) h
    have hd := tnr_nu (g := g) (q := q) (l := tEn g 48 57 n q - q) (fun i hi => ten_all (n := n) (by omega) h)
    exact ⟨fun h => absurd h (by show ¬ (2 : Int) = 0; decide), fun h => absurd h (by show ¬ (2 : Int) = 1; decide), fun _ => ⟨rfl, hd⟩, fun h => absurd h (by show ¬ (2 : Int) = 3; decide), fun h => absurd h (by show ¬ (2 : Int) = 4; decide), fun h => absurd h (by show ¬ (2 : Int) = 5; decide)⟩
  split
  · unfold tKr; dsimp only; omega
  split
  · unfold tKr; dsimp only; omega
  split
  · unfold tKr; dsimp only; omega
  · unfold tKr tSr tSg
    dsimp only
    repeat' split
    all_goals omega
theorem xs_kr {M : sM} (hI : sI M) (hr : M 4 100 ≠ 0) : (M 3 50 = 0 → M 3 44 = 18 + M 3 51 ∧ 0 ≤ M 3 51 ∧ M 3 51 ≤ 23) ∧ (M 3 50 = 1 → M 3 44 = 4 ∧ M 3 51 = M 3 45) ∧ (M 3 50 = 2 → M 3 44 = 3 ∧ 0 ≤ M 3 51 ∧ (M 3 51 ≤ 99999 → M 3 45 = M 3 51) ∧ (100000 ≤ M 3 51 → 100000 ≤ M 3 45)) ∧ (M 3 50 = 3 → (M 3 51 = 59 ∧ M 3 44 = 5) ∨ (M 3 51 = 40 ∧ M 3 44 = 6) ∨ (M 3 51 = 41 ∧ M 3 44 = 7) ∨ (M 3 51 = 43 ∧ M 3 44 = 8) ∨ (M 3 51 = 45 ∧ M 3 44 = 9) ∨ (M 3 51 = 42 ∧ M 3 44 = 10) ∨ (M 3 51 = 47 ∧ M 3 44 = 11) ∨ (60 ≤ M 3 51 ∧ M 3 51 ≤ 258 ∧ (M 3 51 ≤ 62 ∨ 256 ≤ M 3 51) ∧ 12 ≤ M 3 44 ∧ M 3 44 ≤ 17)) ∧ (M 3 50 = 4 → M 3 44 = 2) ∧ (M 3 50 = 5 → M 3 44 = 1) := by
  obtain ⟨a1, a2, a3⟩ := gx_xS2 hI hr
  have hs := tsk_b (M 92) (n := (M 4 101).toNat) (p := (M 4 102).toNat) (by omega)
  have h := tat_kr (M 92) (n := (M 4 101).toNat) (q := tSk (M 92) (M 4 101).toNat (M 4 102).toNat) (M 4 107) (M 4 108) hs.2
  have e : (M 3 44, M 3 45, M 3 46, M 3 47, M 3 50, M 3 51) = tAt (M 92) (M 4 101).toNat (tSk (M 92) (M 4 101).toNat (M 4 102).toNat) (M 4 107) (M 4 108) := a3
  rw [← e] at h
  exact h
/-- the six letters that count -/
theorem tpk_dig (g : Nat → Int) (q l : Nat) : ∃ d : Nat → Int, tPk g q l = d 0 * 33554432 + d 1 * 1048576 + d 2 * 32768 + d 3 * 1024 + d 4 * 32 + d 5 ∧ ∀ i, (i < l → d i = g (q + i) - 96) ∧ (l ≤ i → d i = 0) := by
  have w0 : tPw 0 = 33554432 := rfl
  have w1 : tPw 1 = 1048576 := rfl
  have w2 : tPw 2 = 32768 := rfl
  have w3 : tPw 3 = 1024 := rfl
  have w4 : tPw 4 = 32 := rfl
  have w5 : tPw 5 = 1 := rfl
  refine ⟨fun i => if i < l then g (q + i) - 96 else 0, ?_, fun i => ⟨fun h => if_pos h, fun h => if_neg (by omega)⟩⟩
  rcases Nat.lt_or_ge l 6 with h6 | h6
  · have e : l = 0 ∨ l = 1 ∨ l = 2 ∨ l = 3 ∨ l = 4 ∨ l = 5 := by omega
    rcases e with rfl | rfl | rfl | rfl | rfl | rfl <;> simp [tPk, w0, w1, w2, w3, w4] <;> omega
  · obtain ⟨i, rfl⟩ : ∃ i, l = 6 + i := ⟨l - 6, by omega⟩
    rw [tpk_6]
    dsimp only
    rw [if_pos (by omega), if_pos (by omega), if_pos (by omega), if_pos (by omega), if_pos (by omega), if_pos (by omega)]
    simp only [tPk, w0, w1, w2, w3, w4, w5]
    omega
theorem xop1_nat {x y : Nat} (hx : x < 2147483648) (hy : y < 2147483648) : xop 1 (x : Int) (y : Int) = ((x &&& y : Nat) : Int) := by
  have hle : x &&& y ≤ x := Nat.and_le_left
  show (Int32.ofInt (x : Int) &&& Int32.ofInt (y : Int)).toBitVec.toInt = _
  rw [Int32.toBitVec_and, i32_nat hx, i32_nat hy, BitVec.toInt_eq_toNat_of_lt, BitVec.toNat_and, BitVec.toNat_ofNat, BitVec.toNat_ofNat, Nat.mod_eq_of_lt (by omega), Nat.mod_eq_of_lt (by omega)]
  rw [BitVec.toNat_and, BitVec.toNat_ofNat, BitVec.toNat_ofNat, Nat.mod_eq_of_lt (by omega), Nat.mod_eq_of_lt (by omega)]
  omega
theorem xop0_nat {x : Nat} (hx : x < 2147483648) {w : Nat} (hw : w < 31) : xop 0 (x : Int) (w : Int) = ((x / 2 ^ w : Nat) : Int) := by
  have hc : ∀ v : Fin 31, (Int32.ofInt ((v : Nat) : Int) &&& 31).toBitVec.smod 32 = BitVec.ofNat 32 (v : Nat) := by decide +kernel
  have h1 := hc ⟨w, hw⟩
  show (Int32.ofInt (x : Int) >>> (Int32.ofInt (w : Int) &&& 31)).toBitVec.toInt = _
  rw [Int32.toBitVec_shiftRight, h1, i32_nat hx]
  show ((BitVec.ofNat 32 x).sshiftRight' (BitVec.ofNat 32 w)).toInt = _
  rw [BitVec.sshiftRight_eq', BitVec.toInt_sshiftRight, BitVec.toNat_ofNat, Nat.mod_eq_of_lt (by omega), BitVec.toInt_eq_toNat_of_lt (by rw [BitVec.toNat_ofNat]; omega), BitVec.toNat_ofNat, Nat.mod_eq_of_lt (by omega), Int.shiftRight_eq_div_pow]
  push_cast
  rfl
theorem xop4_nat {x : Nat} (hx : x < 67108864) : xop 4 (x : Int) 5 = ((x * 32 : Nat) : Int) := by
  have h1 : (Int32.ofInt 5 &&& 31).toBitVec.smod 32 = 5#32 := by decide
  show (Int32.ofInt (x : Int) <<< (Int32.ofInt 5 &&& 31)).toBitVec.toInt = _
  rw [Int32.toBitVec_shiftLeft, h1, i32_nat (by omega)]
  show (BitVec.ofNat 32 x <<< 5#32).toInt = _
  rw [BitVec.shiftLeft_eq', BitVec.toInt_eq_toNat_of_lt]
  · rw [BitVec.toNat_shiftLeft, BitVec.toNat_ofNat]
    show (((x % 2 ^ 32) <<< 5 % 2 ^ 32 : Nat) : Int) = _
    rw [Nat.shiftLeft_eq]
    omega
  · rw [BitVec.toNat_shiftLeft, BitVec.toNat_ofNat]
    show 2 * ((x % 2 ^ 32) <<< 5 % 2 ^ 32) < _
    rw [Nat.shiftLeft_eq]
    omega
theorem xsh5 {a : Int} (h0 : 0 ≤ a) (h1 : a ≤ 33554431) : xop 4 a 5 = 32 * a := by
  obtain ⟨x, rfl⟩ := Int.eq_ofNat_of_zero_le h0
  rw [xop4_nat (by omega)]
  omega
theorem nor_bit {w h b l : Nat} (hb : b < 2) (hl : l < 2 ^ w) : (2 ^ w * (2 * h + b) + l) ||| 2 ^ w = 2 ^ w * (2 * h + 1) + l := by
  refine Nat.eq_of_testBit_eq fun j => ?_
  rw [Nat.testBit_or, Nat.testBit_two_pow_mul_add _ hl, Nat.testBit_two_pow_mul_add _ hl, Nat.testBit_two_pow]
  by_cases hj : j < w
  · rw [if_pos hj, if_pos hj]
    simp; omega
  · rw [if_neg hj, if_neg hj]
    by_cases e : w = j
    · subst e
      simp
    · obtain ⟨i, rfl⟩ : ∃ i, j = w + (i + 1) := ⟨j - w - 1, by omega⟩
      rw [show w + (i + 1) - w = i + 1 by omega, Nat.testBit_succ, Nat.testBit_succ, show (2 * h + b) / 2 = h by omega, show (2 * h + 1) / 2 = h by omega]
      simp
theorem xbit_g {w h b l : Nat} (hw : w < 31) (hb : b < 2) (hl : l < 2 ^ w) (ht : 2 ^ w * (2 * h + 1) + l < 2147483648) : xop 1 (xop 0 ((2 ^ w * (2 * h + b) + l : Nat) : Int) (w : Int)) 1 = b ∧ xop 5 ((2 ^ w * (2 * h + b) + l : Nat) : Int) ((2 ^ w : Nat) : Int) = ((2 ^ w * (2 * h + 1) + l : Nat) : Int) := by
  have hp : 0 < 2 ^ w := Nat.two_pow_pos w
  have hm : 2 ^ w * (2 * h + b) ≤ 2 ^ w * (2 * h + 1) := Nat.mul_le_mul_left _ (by omega)
  have h1 : 2 ^ w * 1 ≤ 2 ^ w * (2 * h + 1) := Nat.mul_le_mul_left _ (by omega)
  refine ⟨?_, ?_⟩
  · rw [xop0_nat (by omega) hw, show (2 ^ w * (2 * h + b) + l) / 2 ^ w = 2 * h + b by
      rw [Nat.mul_add_div hp, Nat.div_eq_of_lt hl]; omega]
    have hs : 2 * h + b < 2147483648 := by
      have : 1 * (2 * h + b) ≤ 2 ^ w * (2 * h + b) := Nat.mul_le_mul_right _ hp
      omega
    have := xop1_nat (x := 2 * h + b) (y := 1) hs (by omega)
    rw [show ((1 : Nat) : Int) = 1 from rfl] at this
    rw [this, Nat.and_one_is_mod]
    omega
  · rw [xop5_nat (by omega) (by omega) (by rw [nor_bit hb hl]; exact ht), nor_bit hb hl]
theorem xbit5 {t b h l : Int} (e : t = 64 * h + 32 * b + l) (hb : 0 ≤ b ∧ b ≤ 1) (hl : 0 ≤ l ∧ l < 32) (hh : 0 ≤ h) (ht : 64 * h + 32 + l < 2147483648) : xop 1 (xop 0 t 5) 1 = b ∧ xop 5 t 32 = t + 32 - 32 * b := by
  obtain ⟨b, rfl⟩ := Int.eq_ofNat_of_zero_le hb.1
  obtain ⟨h, rfl⟩ := Int.eq_ofNat_of_zero_le hh
  obtain ⟨l, rfl⟩ := Int.eq_ofNat_of_zero_le hl.1
  have g := xbit_g (w := 5) (h := h) (b := b) (l := l) (by omega) (by omega) (by show l < 32; omega) (by show 32 * (2 * h + 1) + l < _; omega)
  have et : t = ((2 ^ 5 * (2 * h + b) + l : Nat) : Int) := by
    show t = ((32 * (2 * h + b) + l : Nat) : Int)
    omega
  rw [← et] at g
  have g1 : xop 1 (xop 0 t 5) 1 = b := g.1
  have g2 : xop 5 t 32 = ((32 * (2 * h + 1) + l : Nat) : Int) := g.2
  exact ⟨g1, by rw [g2]; omega⟩
theorem xbit6 {t b h l : Int} (e : t = 128 * h + 64 * b + l) (hb : 0 ≤ b ∧ b ≤ 1) (hl : 0 ≤ l ∧ l < 64) (hh : 0 ≤ h) (ht : 128 * h + 64 + l < 2147483648) : xop 1 (xop 0 t 6) 1 = b ∧ xop 5 t 64 = t + 64 - 64 * b := by
  obtain ⟨b, rfl⟩ := Int.eq_ofNat_of_zero_le hb.1
  obtain ⟨h, rfl⟩ := Int.eq_ofNat_of_zero_le hh
  obtain ⟨l, rfl⟩ := Int.eq_ofNat_of_zero_le hl.1
  have g := xbit_g (w := 6) (h := h) (b := b) (l := l) (by omega) (by omega) (by show l < 64; omega) (by show 64 * (2 * h + 1) + l < _; omega)
  have et : t = ((2 ^ 6 * (2 * h + b) + l : Nat) : Int) := by
    show t = ((64 * (2 * h + b) + l : Nat) : Int)
    omega
  rw [← et] at g
  have g1 : xop 1 (xop 0 t 6) 1 = b := g.1
  have g2 : xop 5 t 64 = ((64 * (2 * h + 1) + l : Nat) : Int) := g.2
  exact ⟨g1, by rw [g2]; omega⟩
theorem xbit7 {t b h l : Int} (e : t = 256 * h + 128 * b + l) (hb : 0 ≤ b ∧ b ≤ 1) (hl : 0 ≤ l ∧ l < 128) (hh : 0 ≤ h) (ht : 256 * h + 128 + l < 2147483648) : xop 1 (xop 0 t 7) 1 = b ∧ xop 5 t 128 = t + 128 - 128 * b := by
  obtain ⟨b, rfl⟩ := Int.eq_ofNat_of_zero_le hb.1
  obtain ⟨h, rfl⟩ := Int.eq_ofNat_of_zero_le hh
  obtain ⟨l, rfl⟩ := Int.eq_ofNat_of_zero_le hl.1
  have g := xbit_g (w := 7) (h := h) (b := b) (l := l) (by omega) (by omega) (by show l < 128; omega) (by show 128 * (2 * h + 1) + l < _; omega)
  have et : t = ((2 ^ 7 * (2 * h + b) + l : Nat) : Int) := by
    show t = ((128 * (2 * h + b) + l : Nat) : Int)
    omega
  rw [← et] at g
  have g1 : xop 1 (xop 0 t 7) 1 = b := g.1
  have g2 : xop 5 t 128 = ((128 * (2 * h + 1) + l : Nat) : Int) := g.2
  exact ⟨g1, by rw [g2]; omega⟩
theorem xbit8 {t b h l : Int} (e : t = 512 * h + 256 * b + l) (hb : 0 ≤ b ∧ b ≤ 1) (hl : 0 ≤ l ∧ l < 256) (hh : 0 ≤ h) (ht : 512 * h + 256 + l < 2147483648) : xop 1 (xop 0 t 8) 1 = b ∧ xop 5 t 256 = t + 256 - 256 * b := by
  obtain ⟨b, rfl⟩ := Int.eq_ofNat_of_zero_le hb.1
  obtain ⟨h, rfl⟩ := Int.eq_ofNat_of_zero_le hh
  obtain ⟨l, rfl⟩ := Int.eq_ofNat_of_zero_le hl.1
  have g := xbit_g (w := 8) (h := h) (b := b) (l := l) (by omega) (by omega) (by show l < 256; omega) (by show 256 * (2 * h + 1) + l < _; omega)
  have et : t = ((2 ^ 8 * (2 * h + b) + l : Nat) : Int) := by
    show t = ((256 * (2 * h + b) + l : Nat) : Int)
    omega
  rw [← et] at g
  have g1 : xop 1 (xop 0 t 8) 1 = b := g.1
  have g2 : xop 5 t 256 = ((256 * (2 * h + 1) + l : Nat) : Int) := g.2
  exact ⟨g1, by rw [g2]; omega⟩
theorem xbit9 {t b h l : Int} (e : t = 1024 * h + 512 * b + l) (hb : 0 ≤ b ∧ b ≤ 1) (hl : 0 ≤ l ∧ l < 512) (hh : 0 ≤ h) (ht : 1024 * h + 512 + l < 2147483648) : xop 1 (xop 0 t 9) 1 = b ∧ xop 5 t 512 = t + 512 - 512 * b := by
  obtain ⟨b, rfl⟩ := Int.eq_ofNat_of_zero_le hb.1
  obtain ⟨h, rfl⟩ := Int.eq_ofNat_of_zero_le hh
  obtain ⟨l, rfl⟩ := Int.eq_ofNat_of_zero_le hl.1
  have g := xbit_g (w := 9) (h := h) (b := b) (l := l) (by omega) (by omega) (by show l < 512; omega) (by show 512 * (2 * h + 1) + l < _; omega)
  have et : t = ((2 ^ 9 * (2 * h + b) + l : Nat) : Int) := by
    show t = ((512 * (2 * h + b) + l : Nat) : Int)
    omega
  rw [← et] at g
  have g1 : xop 1 (xop 0 t 9) 1 = b := g.1
  have g2 : xop 5 t 512 = ((512 * (2 * h + 1) + l : Nat) : Int) := g.2
  exact ⟨g1, by rw [g2]; omega⟩
theorem xbit16 {t b h l : Int} (e : t = 131072 * h + 65536 * b + l) (hb : 0 ≤ b ∧ b ≤ 1) (hl : 0 ≤ l ∧ l < 65536) (hh : 0 ≤ h) (ht : 131072 * h + 65536 + l < 2147483648) : xop 1 (xop 0 t 16) 1 = b ∧ xop 5 t 65536 = t + 65536 - 65536 * b := by
  obtain ⟨b, rfl⟩ := Int.eq_ofNat_of_zero_le hb.1
  obtain ⟨h, rfl⟩ := Int.eq_ofNat_of_zero_le hh
  obtain ⟨l, rfl⟩ := Int.eq_ofNat_of_zero_le hl.1
  have g := xbit_g (w := 16) (h := h) (b := b) (l := l) (by omega) (by omega) (by show l < 65536; omega) (by show 65536 * (2 * h + 1) + l < _; omega)
  have et : t = ((2 ^ 16 * (2 * h + b) + l : Nat) : Int) := by
    show t = ((65536 * (2 * h + b) + l : Nat) : Int)
    omega
  rw [← et] at g
  have g1 : xop 1 (xop 0 t 16) 1 = b := g.1
  have g2 : xop 5 t 65536 = ((65536 * (2 * h + 1) + l : Nat) : Int) := g.2
  exact ⟨g1, by rw [g2]; omega⟩
theorem xbit17 {t b h l : Int} (e : t = 262144 * h + 131072 * b + l) (hb : 0 ≤ b ∧ b ≤ 1) (hl : 0 ≤ l ∧ l < 131072) (hh : 0 ≤ h) (ht : 262144 * h + 131072 + l < 2147483648) : xop 1 (xop 0 t 17) 1 = b ∧ xop 5 t 131072 = t + 131072 - 131072 * b := by
  obtain ⟨b, rfl⟩ := Int.eq_ofNat_of_zero_le hb.1
  obtain ⟨h, rfl⟩ := Int.eq_ofNat_of_zero_le hh
  obtain ⟨l, rfl⟩ := Int.eq_ofNat_of_zero_le hl.1
  have g := xbit_g (w := 17) (h := h) (b := b) (l := l) (by omega) (by omega) (by show l < 131072; omega) (by show 131072 * (2 * h + 1) + l < _; omega)
  have et : t = ((2 ^ 17 * (2 * h + b) + l : Nat) : Int) := by
    show t = ((131072 * (2 * h + b) + l : Nat) : Int)
    omega
  rw [← et] at g
  have g1 : xop 1 (xop 0 t 17) 1 = b := g.1
  have g2 : xop 5 t 131072 = ((131072 * (2 * h + 1) + l : Nat) : Int) := g.2
  exact ⟨g1, by rw [g2]; omega⟩
theorem xbo0 {t : Int} (h0 : 0 ≤ t) (h1 : t < 1073741824) : (xop 5 t 1 = t ∧ (t / 1) % 2 = 1) ∨ (xop 5 t 1 = t + 1 ∧ (t / 1) % 2 = 0) := by
  obtain ⟨x, rfl⟩ := Int.eq_ofNat_of_zero_le h0
  have g := xbit_g (w := 0) (h := x / 2) (b := x / 1 % 2) (l := x % 1) (by omega) (by omega) (by show x % 1 < 1; omega) (by show 1 * (2 * (x / 2) + 1) + x % 1 < _; omega)
  have et : ((2 ^ 0 * (2 * (x / 2) + x / 1 % 2) + x % 1 : Nat) : Int) = x := by
    show ((1 * (2 * (x / 2) + x / 1 % 2) + x % 1 : Nat) : Int) = x
    omega
  rw [et] at g
  have g2 : xop 5 (x : Int) 1 = ((1 * (2 * (x / 2) + 1) + x % 1 : Nat) : Int) := g.2
  rw [g2]
  omega
theorem xbo1 {t : Int} (h0 : 0 ≤ t) (h1 : t < 1073741824) : (xop 5 t 2 = t ∧ (t / 2) % 2 = 1) ∨ (xop 5 t 2 = t + 2 ∧ (t / 2) % 2 = 0) := by
  obtain ⟨x, rfl⟩ := Int.eq_ofNat_of_zero_le h0
  have g := xbit_g (w := 1) (h := x / 4) (b := x / 2 % 2) (l := x % 2) (by omega) (by omega) (by show x % 2 < 2; omega) (by show 2 * (2 * (x / 4) + 1) + x % 2 < _; omega)
  have et : ((2 ^ 1 * (2 * (x / 4) + x / 2 % 2) + x % 2 : Nat) : Int) = x := by
    show ((2 * (2 * (x / 4) + x / 2 % 2) + x % 2 : Nat) : Int) = x
    omega
  rw [et] at g
  have g2 : xop 5 (x : Int) 2 = ((2 * (2 * (x / 4) + 1) + x % 2 : Nat) : Int) := g.2
  rw [g2]
  omega
theorem xbo2 {t : Int} (h0 : 0 ≤ t) (h1 : t < 1073741824) : (xop 5 t 4 = t ∧ (t / 4) % 2 = 1) ∨ (xop 5 t 4 = t + 4 ∧ (t / 4) % 2 = 0) := by
  obtain ⟨x, rfl⟩ := Int.eq_ofNat_of_zero_le h0
  have g := xbit_g (w := 2) (h := x / 8) (b := x / 4 % 2) (l := x % 4) (by omega) (by omega) (by show x % 4 < 4; omega) (by show 4 * (2 * (x / 8) + 1) + x % 4 < _; omega)
  have et : ((2 ^ 2 * (2 * (x / 8) + x / 4 % 2) + x % 4 : Nat) : Int) = x := by
    show ((4 * (2 * (x / 8) + x / 4 % 2) + x % 4 : Nat) : Int) = x
    omega
  rw [et] at g
  have g2 : xop 5 (x : Int) 4 = ((4 * (2 * (x / 8) + 1) + x % 4 : Nat) : Int) := g.2
  rw [g2]
  omega
theorem xbo3 {t : Int} (h0 : 0 ≤ t) (h1 : t < 1073741824) : (xop 5 t 8 = t ∧ (t / 8) % 2 = 1) ∨ (xop 5 t 8 = t + 8 ∧ (t / 8) % 2 = 0) := by
  obtain ⟨x, rfl⟩ := Int.eq_ofNat_of_zero_le h0
  have g := xbit_g (w := 3) (h := x / 16) (b := x / 8 % 2) (l := x % 8) (by omega) (by omega) (by show x % 8 < 8; omega) (by show 8 * (2 * (x / 16) + 1) + x % 8 < _; omega)
  have et : ((2 ^ 3 * (2 * (x / 16) + x / 8 % 2) + x % 8 : Nat) : Int) = x := by
    show ((8 * (2 * (x / 16) + x / 8 % 2) + x % 8 : Nat) : Int) = x
    omega
  rw [et] at g
  have g2 : xop 5 (x : Int) 8 = ((8 * (2 * (x / 16) + 1) + x % 8 : Nat) : Int) := g.2
  rw [g2]
  omega
theorem xbo4 {t : Int} (h0 : 0 ≤ t) (h1 : t < 1073741824) : (xop 5 t 16 = t ∧ (t / 16) % 2 = 1) ∨ (xop 5 t 16 = t + 16 ∧ (t / 16) % 2 = 0) := by
  obtain ⟨x, rfl⟩ := Int.eq_ofNat_of_zero_le h0
  have g := xbit_g (w := 4) (h := x / 32) (b := x / 16 % 2) (l := x % 16) (by omega) (by omega) (by show x % 16 < 16; omega) (by show 16 * (2 * (x / 32) + 1) + x % 16 < _; omega)
  have et : ((2 ^ 4 * (2 * (x / 32) + x / 16 % 2) + x % 16 : Nat) : Int) = x := by
    show ((16 * (2 * (x / 32) + x / 16 % 2) + x % 16 : Nat) : Int) = x
    omega
  rw [et] at g
  have g2 : xop 5 (x : Int) 16 = ((16 * (2 * (x / 32) + 1) + x % 16 : Nat) : Int) := g.2
  rw [g2]
  omega
theorem xbo10 {t : Int} (h0 : 0 ≤ t) (h1 : t < 1073741824) : (xop 5 t 1024 = t ∧ (t / 1024) % 2 = 1) ∨ (xop 5 t 1024 = t + 1024 ∧ (t / 1024) % 2 = 0) := by
  obtain ⟨x, rfl⟩ := Int.eq_ofNat_of_zero_le h0
  have g := xbit_g (w := 10) (h := x / 2048) (b := x / 1024 % 2) (l := x % 1024) (by omega) (by omega) (by show x % 1024 < 1024; omega) (by show 1024 * (2 * (x / 2048) + 1) + x % 1024 < _; omega)
  have et : ((2 ^ 10 * (2 * (x / 2048) + x / 1024 % 2) + x % 1024 : Nat) : Int) = x := by
    show ((1024 * (2 * (x / 2048) + x / 1024 % 2) + x % 1024 : Nat) : Int) = x
    omega
  rw [et] at g
  have g2 : xop 5 (x : Int) 1024 = ((1024 * (2 * (x / 2048) + 1) + x % 1024 : Nat) : Int) := g.2
  rw [g2]
  omega
theorem xi2b (x : Int) : (Int32.ofInt x).toInt8.toInt32.toInt = tSn (xop 1 x 255) := by
  have h1 : (Int32.ofInt x).toInt8.toInt32.toInt = (Int32.ofInt x).toInt.bmod 256 := by
    rw [Int8.toInt_toInt32, Int32.toInt_toInt8]
  have h2 : xop 1 x 255 = (((Int32.ofInt x).toBitVec.toNat % 256 : Nat) : Int) := by
    show (Int32.ofInt x &&& Int32.ofInt 255).toBitVec.toInt = _
    have e : (Int32.ofInt x &&& Int32.ofInt 255).toBitVec.toNat = (Int32.ofInt x).toBitVec.toNat % 256 := by
      rw [Int32.toBitVec_and, BitVec.toNat_and]
      exact Nat.and_two_pow_sub_one_eq_mod _ 8
    rw [BitVec.toInt_eq_toNat_of_lt (by rw [e]; omega), e]
  have h3 : (Int32.ofInt x).toInt = if 2 * (Int32.ofInt x).toBitVec.toNat < 2 ^ 32 then ((Int32.ofInt x).toBitVec.toNat : Int) else ((Int32.ofInt x).toBitVec.toNat : Int) - (2 ^ 32 : Nat) := BitVec.toInt_eq_toNat_cond _
  rw [h1, h2, h3]
  unfold tSn Int.bmod
  dsimp only
  repeat' split
  all_goals omega
theorem xop_s0 {x : Int} (h : -2147483648 ≤ x) (h' : x ≤ 2147483647) : xop 0 x 0 = x := by
  show (Int32.ofInt x >>> (Int32.ofInt 0 &&& 31)).toInt = x
  rw [show (Int32.ofInt 0 &&& 31 : Int32) = 0 from by decide, Int32.shiftRight_zero]
  exact inR_to ⟨h, h'⟩
