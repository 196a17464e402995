/-! NUMBERS OF THE MACHINE, as whole numbers. -/
theorem zn_and (a : Int32) {m : Int} (h0 : 0 ≤ m) (h1 : m ≤ 2147483647) : 0 ≤ (a &&& Int32.ofInt m).toInt ∧ (a &&& Int32.ofInt m).toInt ≤ m := by
  have hm : (Int32.ofInt m).toInt = m := inR_to ⟨by omega, h1⟩
  have hb : (a &&& Int32.ofInt m).toInt = ((a &&& Int32.ofInt m).toBitVec).toInt := rfl
  have hb2 : ((Int32.ofInt m).toBitVec).toInt = m := hm
  rw [hb, Int32.toBitVec_and]
  have hle : (a.toBitVec &&& (Int32.ofInt m).toBitVec).toNat ≤ ((Int32.ofInt m).toBitVec).toNat := by
    rw [BitVec.toNat_and]
    exact Nat.and_le_right
  have hlt := ((Int32.ofInt m).toBitVec).isLt
  rw [BitVec.toInt_eq_toNat_cond] at hb2 ⊢
  split at hb2
  · rw [if_pos (by omega)]
    omega
  · omega
theorem zn_rem {x : Int32} {c : Int} (h0 : 0 < c) (h1 : c ≤ 2147483647) : (x - x / Int32.ofInt c * Int32.ofInt c).toInt = x.toInt.tmod c := by
  have hc : (Int32.ofInt c).toInt = c := inR_to ⟨by omega, h1⟩
  have hr := i32_rng x
  have hd : (x / Int32.ofInt c).toInt = x.toInt.tdiv c := by
    rw [Int32.toInt_div_of_ne_right _ _ (by
      intro hz
      have := congrArg Int32.toInt hz
      rw [hc] at this
      have h2 : (-1 : Int32).toInt = -1 := by decide
      omega), hc]
  have h3 := Int.tmod_add_mul_tdiv x.toInt c
  have h4 : x.toInt.tmod c = x.toInt - x.toInt.tdiv c * c := by rw [Int.mul_comm (x.toInt.tdiv c) c]; omega
  have hm : -2147483648 ≤ x.toInt.tmod c ∧ x.toInt.tmod c ≤ 2147483647 := by
    have ha := Int.natAbs_tmod x.toInt c
    have hb : (x.toInt.natAbs % c.natAbs) < c.natAbs := Nat.mod_lt _ (by omega)
    omega
  have hp : (x / Int32.ofInt c * Int32.ofInt c).toInt = x.toInt.tdiv c * c := by
    rw [Int32.toInt_mul, hd, hc]
    refine Int.bmod_eq_of_le ?_ ?_
    · have hb1 : x.toInt.tdiv c * c = x.toInt - x.toInt.tmod c := by omega
      rw [hb1]
      have ha := Int.natAbs_tmod x.toInt c
      have hb2 : (x.toInt.natAbs % c.natAbs) ≤ x.toInt.natAbs := Nat.mod_le _ _
      have hs : 0 ≤ x.toInt → 0 ≤ x.toInt.tmod c := fun h => Int.tmod_nonneg c h
      have hs2 : x.toInt ≤ 0 → x.toInt.tmod c ≤ 0 := fun h => by
        have := Int.tmod_nonneg c (a := -x.toInt) (by omega)
        rw [Int.neg_tmod] at this
        omega
      have h5 := hr.1
      have h6 := hr.2
      by_cases h : 0 ≤ x.toInt
      · have := hs h; omega
      · have := hs2 (by omega); omega
    · have hb1 : x.toInt.tdiv c * c = x.toInt - x.toInt.tmod c := by omega
      rw [hb1]
      have ha := Int.natAbs_tmod x.toInt c
      have hb2 : (x.toInt.natAbs % c.natAbs) ≤ x.toInt.natAbs := Nat.mod_le _ _
      have hs : 0 ≤ x.toInt → 0 ≤ x.toInt.tmod c := fun h => Int.tmod_nonneg c h
      have hs2 : x.toInt ≤ 0 → x.toInt.tmod c ≤ 0 := fun h => by
        have := Int.tmod_nonneg c (a := -x.toInt) (by omega)
        rw [Int.neg_tmod] at this
        omega
      have h5 := hr.1
      have h6 := hr.2
      by_cases h : 0 ≤ x.toInt
      · have := hs h; omega
      · have := hs2 (by omega); omega
  rw [Int32.toInt_sub, hp, ← h4]
  exact Int.bmod_eq_of_le (by omega) (by omega)
theorem zn_rem_b {x : Int32} {c : Int} (h0 : 0 < c) (h1 : c ≤ 2147483647) : -(c - 1) ≤ (x - x / Int32.ofInt c * Int32.ofInt c).toInt ∧ (x - x / Int32.ofInt c * Int32.ofInt c).toInt ≤ c - 1 ∧ (0 ≤ x.toInt → 0 ≤ (x - x / Int32.ofInt c * Int32.ofInt c).toInt) := by
  rw [zn_rem h0 h1]
  have ha := Int.natAbs_tmod x.toInt c
  have hb : (x.toInt.natAbs % c.natAbs) < c.natAbs := Nat.mod_lt _ (by omega)
  exact ⟨by omega, by omega, fun h => Int.tmod_nonneg c h⟩
theorem zn_div {x c : Int} (hx : 0 ≤ x) (hx1 : x ≤ 2147483647) (h0 : 0 < c) (h1 : c ≤ 2147483647) : 0 ≤ x - c * (Int32.ofInt x / Int32.ofInt c).toInt ∧ 0 ≤ c * (Int32.ofInt x / Int32.ofInt c).toInt + (c - 1) - x := by
  have hc : (Int32.ofInt c).toInt = c := inR_to ⟨by omega, h1⟩
  have hX : (Int32.ofInt x).toInt = x := inR_to ⟨by omega, hx1⟩
  have hd : (Int32.ofInt x / Int32.ofInt c).toInt = x.tdiv c := by
    rw [Int32.toInt_div_of_ne_right _ _ (by
      intro hz
      have := congrArg Int32.toInt hz
      rw [hc] at this
      have h2 : (-1 : Int32).toInt = -1 := by decide
      omega), hc, hX]
  rw [hd, Int.tdiv_eq_ediv_of_nonneg hx]
  have h2 := Int.mul_ediv_self_le (x := x) (k := c) (by omega)
  have h3 := Int.lt_mul_ediv_self_add (x := x) (k := c) (by omega)
  omega
theorem zn_ne {y : Int} (h : (1 ≤ y ∧ y ≤ 2147483647) ∨ (-2147483648 ≤ y ∧ y ≤ -1)) : ¬ Int32.ofInt y = 0 := by
  intro hz
  have h1 : (Int32.ofInt y).toInt = y := inR_to ⟨by omega, by omega⟩
  rw [hz] at h1
  have h2 : (0 : Int32).toInt = 0 := by decide
  omega
theorem zn_neL {y : Int} (h : (1 ≤ y ∧ y ≤ 9223372036854775808) ∨ (-9223372036854775808 ≤ y ∧ y ≤ -1)) : ¬ Int64.ofInt y = 0 := by
  intro hz
  have h2 : (0 : Int64).toInt = 0 := by decide
  by_cases hy : y = 9223372036854775808
  · rw [hy] at hz
    exact absurd hz (by decide)
  · have h1 : (Int64.ofInt y).toInt = y := inL_to ⟨by omega, by omega⟩
    rw [hz] at h1
    omega
theorem zn_shl : ∀ k : Fin 31, (1 <<< (Int32.ofInt (k : Nat) &&& 31) : Int32).toInt = 2 ^ (k : Nat) := by decide +kernel
theorem zn_shl_b {y : Int} {n : Nat} (h0 : 0 ≤ y) (h1 : y ≤ n) (hn : n ≤ 30) : 1 ≤ (1 <<< (Int32.ofInt y &&& 31) : Int32).toInt ∧ (1 <<< (Int32.ofInt y &&& 31) : Int32).toInt ≤ 2 ^ n := by
  have h := zn_shl ⟨y.toNat, by omega⟩
  have e : ((⟨y.toNat, by omega⟩ : Fin 31) : Nat) = y.toNat := rfl
  have e2 : ((y.toNat : Nat) : Int) = y := Int.toNat_of_nonneg h0
  rw [e, e2] at h
  rw [h]
  refine ⟨?_, ?_⟩
  · have : (1 : Nat) ≤ 2 ^ y.toNat := Nat.one_le_two_pow
    have h3 : ((2 ^ y.toNat : Nat) : Int) = (2 : Int) ^ y.toNat := by rw [Int.natCast_pow]; rfl
    omega
  · have : (2 : Nat) ^ y.toNat ≤ 2 ^ n := Nat.pow_le_pow_right (by omega) (by omega)
    have h3 : ((2 ^ y.toNat : Nat) : Int) = (2 : Int) ^ y.toNat := by rw [Int.natCast_pow]; rfl
    have h4 : ((2 ^ n : Nat) : Int) = (2 : Int) ^ n := by rw [Int.natCast_pow]; rfl
    omega
theorem zn_cmp {x y : Int} (hx : inL x) (hy : inL y) : lg_cmp (Int64.ofInt x) (Int64.ofInt y) = Int32.ofInt (if y < x then 1 else if x = y then 0 else -1) := by
  unfold lg_cmp
  have h1 : Int64.ofInt x > Int64.ofInt y ↔ y < x := by
    show Int64.ofInt y < Int64.ofInt x ↔ _
    rw [Int64.lt_iff_toInt_lt, inL_to hx, inL_to hy]
  have h2 : Int64.ofInt x = Int64.ofInt y ↔ x = y := by rw [← Int64.toInt_inj, inL_to hx, inL_to hy]
  by_cases h : y < x
  · rw [if_pos (h1.mpr h), if_pos h]; rfl
  · rw [if_neg (fun z => h (h1.mp z)), if_neg h]
    by_cases h3 : x = y
    · rw [if_pos (h2.mpr h3), if_pos h3]; rfl
    · rw [if_neg (fun z => h3 (h2.mp z)), if_neg h3]; rfl
theorem zn_cmp3 (x y : Int64) : lg_cmp x y = Int32.ofInt (-1) ∨ lg_cmp x y = Int32.ofInt 0 ∨ lg_cmp x y = Int32.ofInt 1 := by
  unfold lg_cmp
  split
  · exact Or.inr (Or.inr rfl)
  · split
    · exact Or.inr (Or.inl rfl)
    · exact Or.inl rfl
