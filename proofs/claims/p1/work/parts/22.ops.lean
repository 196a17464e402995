/-! EACH CALL, FOR ALL ITS ARGUMENTS (by program, wip/p1/mko.py). -/
def cBoth (K1 K2 : Nat) (cas : List Value) : Prop := ∃ (v : Value) (L1 L2 : pHp), pEx 12 K1 (.ref 0 :: cas) fF (some v) L1 ∧ pEx 12 K2 (.ref 91 :: cas) L1 (some v) L2 ∧ L2.length ≤ 100000 ∧ pSz L2 ≤ 3000000
theorem vR_f {ρ : Nat → Int32} {u : UInt32} {k : Nat} {x : Int32} (hu : u.toNat = 8 + k) (hk : k < 1000) (hx : ρ k = x) : vR ρ (.float u) (.int x) := by
  show (if u.toNat < 8 then Value.int x = .float u else if u.toNat = 4294967295 then ∃ y, Value.int x = .int y else Value.int x = .int (ρ (u.toNat - 8)))
  rw [if_neg (by omega), if_neg (by omega), hu, Nat.add_sub_cancel_left, hx]
theorem vL_0 : vL (cR []) [] [] := rfl
theorem vL_1 {x0 : Int32} : vL (cR [x0]) [.float 8] [.int x0] := ⟨_, _, rfl, vR_f (k := 0) rfl (by decide) rfl, rfl⟩
theorem vL_2 {x0 x1 : Int32} : vL (cR [x0, x1]) [.float 8, .float 9] [.int x0, .int x1] := ⟨_, _, rfl, vR_f (k := 0) rfl (by decide) rfl, ⟨_, _, rfl, vR_f (k := 1) rfl (by decide) rfl, rfl⟩⟩
theorem vL_3 {x0 x1 x2 : Int32} : vL (cR [x0, x1, x2]) [.float 8, .float 9, .float 10] [.int x0, .int x1, .int x2] := ⟨_, _, rfl, vR_f (k := 0) rfl (by decide) rfl, ⟨_, _, rfl, vR_f (k := 1) rfl (by decide) rfl, ⟨_, _, rfl, vR_f (k := 2) rfl (by decide) rfl, rfl⟩⟩⟩
theorem vL_4 {x0 x1 x2 x3 : Int32} : vL (cR [x0, x1, x2, x3]) [.float 8, .float 9, .float 10, .float 11] [.int x0, .int x1, .int x2, .int x3] := ⟨_, _, rfl, vR_f (k := 0) rfl (by decide) rfl, ⟨_, _, rfl, vR_f (k := 1) rfl (by decide) rfl, ⟨_, _, rfl, vR_f (k := 2) rfl (by decide) rfl, ⟨_, _, rfl, vR_f (k := 3) rfl (by decide) rfl, rfl⟩⟩⟩⟩
theorem vL_5 {x0 x1 x2 x3 x4 : Int32} : vL (cR [x0, x1, x2, x3, x4]) [.float 8, .float 9, .float 10, .float 11, .float 12] [.int x0, .int x1, .int x2, .int x3, .int x4] := ⟨_, _, rfl, vR_f (k := 0) rfl (by decide) rfl, ⟨_, _, rfl, vR_f (k := 1) rfl (by decide) rfl, ⟨_, _, rfl, vR_f (k := 2) rfl (by decide) rfl, ⟨_, _, rfl, vR_f (k := 3) rfl (by decide) rfl, ⟨_, _, rfl, vR_f (k := 4) rfl (by decide) rfl, rfl⟩⟩⟩⟩⟩
theorem aEn_two {ρ : Nat → Int32} {a b c d : Int} (h0 : a ≤ (ρ 0).toInt ∧ (ρ 0).toInt ≤ b) (h1 : c ≤ (ρ 1).toInt ∧ (ρ 1).toInt ≤ d) : aEn ρ [(a, b), (c, d), aFull, aFull, aFull] := by
  intro k q h
  match k, h with
  | 0, h => cases h; exact h0
  | 1, h => cases h; exact h1
  | 2, h => cases h; exact aEn_E0 2 aFull rfl
  | 3, h => cases h; exact aEn_E0 3 aFull rfl
  | 4, h => cases h; exact aEn_E0 4 aFull rfl
  | k + 5, h => cases h
theorem i32_lo (x : Int32) : (-2147483648 : Int) ≤ x.toInt := Int32.le_toInt _
theorem i32_hi (x : Int32) : x.toInt ≤ 2147483647 := Int.le_of_lt_add_one (Int32.toInt_lt _)
theorem cq_0 (x0 x1 x2 x3 x4 : Int32) : cBoth 25 169 [.int x0, .int x1, .int x2, .int x3, .int x4] := cov_both fc_0 (aEn_E0 (ρ := cR [x0, x1, x2, x3, x4])) vL_5
theorem cq_1 (x0 : Int32) : cBoth 27 170 [.int x0] := cov_both fc_1 (aEn_E0 (ρ := cR [x0])) vL_1
theorem cq_2 (x0 : Int32) : cBoth 70 202 [.int x0] := cov_both fc_2 (aEn_E0 (ρ := cR [x0])) vL_1
theorem cq_3 (x0 x1 : Int32) : cBoth 71 203 [.int x0, .int x1] := cov_both fc_3 (aEn_E0 (ρ := cR [x0, x1])) vL_2
theorem cq_5 (x0 x1 : Int32) : cBoth 72 207 [.int x0, .int x1] := cov_both fc_5 (aEn_E0 (ρ := cR [x0, x1])) vL_2
theorem cq_6 (x0 x1 : Int32) : cBoth 74 209 [.int x0, .int x1] := cov_both fc_6 (aEn_E0 (ρ := cR [x0, x1])) vL_2
theorem cq_7 (x0 x1 x2 : Int32) : cBoth 76 211 [.int x0, .int x1, .int x2] := cov_both fc_7 (aEn_E0 (ρ := cR [x0, x1, x2])) vL_3
theorem cq_8 (x0 x1 : Int32) : cBoth 88 221 [.int x0, .int x1] := cov_both fc_8 (aEn_E0 (ρ := cR [x0, x1])) vL_2
theorem cq_9 (x0 x1 : Int32) : cBoth 90 224 [.int x0, .int x1] := cov_both fc_9 (aEn_E0 (ρ := cR [x0, x1])) vL_2
theorem cq_10 (x0 x1 x2 x3 : Int32) : cBoth 94 227 [.int x0, .int x1, .int x2, .int x3] := by
  have l0 := i32_lo x0; have u0 := i32_hi x0
  have lq : ∀ y : Int32, -2147483648 ≤ y.toInt ∧ y.toInt ≤ 2147483647 := fun y => ⟨i32_lo y, i32_hi y⟩
  by_cases h0 : x0.toInt < 0
  · exact cov_both fc_10_0 (aEn_two (ρ := cR [x0, x1, x2, x3]) ⟨by show _ ≤ x0.toInt; omega, by show x0.toInt ≤ _; omega⟩ (lq _)) vL_4
  by_cases h1 : x0.toInt = 0
  · exact cov_both fc_10_1 (aEn_two (ρ := cR [x0, x1, x2, x3]) ⟨by show _ ≤ x0.toInt; omega, by show x0.toInt ≤ _; omega⟩ (lq _)) vL_4
  by_cases h2 : x0.toInt = 1
  · exact cov_both fc_10_2 (aEn_two (ρ := cR [x0, x1, x2, x3]) ⟨by show _ ≤ x0.toInt; omega, by show x0.toInt ≤ _; omega⟩ (lq _)) vL_4
  · exact cov_both fc_10_3 (aEn_two (ρ := cR [x0, x1, x2, x3]) ⟨by show _ ≤ x0.toInt; omega, by show x0.toInt ≤ _; omega⟩ (lq _)) vL_4
theorem cq_11 (x0 x1 : Int32) (h : x1 = 0 ∨ x1 = 1) : cBoth 95 228 [.int x0, .int x1] := cov_both fc_11 (aEn_two (ρ := cR [x0, x1]) ⟨i32_lo _, i32_hi _⟩ (by rcases h with rfl | rfl; exact ⟨(by decide : (0 : Int) ≤ (0 : Int32).toInt), (by decide : (0 : Int32).toInt ≤ 1)⟩; exact ⟨(by decide : (0 : Int) ≤ (1 : Int32).toInt), (by decide : (1 : Int32).toInt ≤ 1)⟩)) vL_2
theorem cq_12 (x0 x1 : Int32) : cBoth 98 232 [.int x0, .int x1] := cov_both fc_12 (aEn_E0 (ρ := cR [x0, x1])) vL_2
theorem cq_13 (x0 : Int32) : cBoth 99 233 [.int x0] := cov_both fc_13 (aEn_E0 (ρ := cR [x0])) vL_1
theorem cq_14 (x0 : Int32) : cBoth 100 234 [.int x0] := cov_both fc_14 (aEn_E0 (ρ := cR [x0])) vL_1
theorem cq_15 (x0 : Int32) : cBoth 101 235 [.int x0] := cov_both fc_15 (aEn_E0 (ρ := cR [x0])) vL_1
theorem cq_16 (x0 : Int32) : cBoth 105 240 [.int x0] := cov_both fc_16 (aEn_E0 (ρ := cR [x0])) vL_1
theorem cq_17 (x0 x1 : Int32) : cBoth 106 241 [.int x0, .int x1] := cov_both fc_17 (aEn_E0 (ρ := cR [x0, x1])) vL_2
theorem cq_18 : cBoth 108 245 [] := cov_both fc_18 (aEn_E0 (ρ := cR [])) vL_0
theorem cq_19 (x0 : Int32) : cBoth 110 247 [.int x0] := cov_both fc_19 (aEn_E0 (ρ := cR [x0])) vL_1
theorem cq_20 (x0 x1 : Int32) : cBoth 112 248 [.int x0, .int x1] := cov_both fc_20 (aEn_E0 (ρ := cR [x0, x1])) vL_2
theorem cq_21 (x0 : Int32) : cBoth 125 254 [.int x0] := cov_both fc_21 (aEn_E0 (ρ := cR [x0])) vL_1
theorem cq_22 (x0 x1 : Int32) : cBoth 131 259 [.int x0, .int x1] := cov_both fc_22 (aEn_E0 (ρ := cR [x0, x1])) vL_2
theorem cq_23 (x0 : Int32) : cBoth 132 260 [.int x0] := cov_both fc_23 (aEn_E0 (ρ := cR [x0])) vL_1
theorem cq_24 (x0 x1 x2 : Int32) : cBoth 133 261 [.int x0, .int x1, .int x2] := cov_both fc_24 (aEn_E0 (ρ := cR [x0, x1, x2])) vL_3
theorem cq_25 (x0 x1 : Int32) : cBoth 135 264 [.int x0, .int x1] := cov_both fc_25 (aEn_E0 (ρ := cR [x0, x1])) vL_2
theorem cq_26 (x0 x1 : Int32) : cBoth 136 265 [.int x0, .int x1] := cov_both fc_26 (aEn_E0 (ρ := cR [x0, x1])) vL_2
theorem cq_27 (x0 : Int32) : cBoth 137 253 [.int x0] := cov_both fc_27 (aEn_E0 (ρ := cR [x0])) vL_1
theorem cq_28 (x0 : Int32) : cBoth 140 266 [.int x0] := cov_both fc_28 (aEn_E0 (ρ := cR [x0])) vL_1
theorem cq_29 (x0 x1 x2 x3 : Int32) : cBoth 142 267 [.int x0, .int x1, .int x2, .int x3] := cov_both fc_29 (aEn_E0 (ρ := cR [x0, x1, x2, x3])) vL_4
theorem cq_30 (x0 : Int32) : cBoth 144 268 [.int x0] := cov_both fc_30 (aEn_E0 (ρ := cR [x0])) vL_1
theorem cq_31 (x0 : Int32) : cBoth 146 269 [.int x0] := cov_both fc_31 (aEn_E0 (ρ := cR [x0])) vL_1
theorem cq_32 : cBoth 147 270 [] := cov_both fc_32 (aEn_E0 (ρ := cR [])) vL_0
theorem cq_33 (x0 x1 : Int32) : cBoth 153 275 [.int x0, .int x1] := by
  have l0 := i32_lo x0; have u0 := i32_hi x0; have l1 := i32_lo x1; have u1 := i32_hi x1
  by_cases h0 : x0.toInt < 0
  · exact cov_both fc_33_0 (aEn_two (ρ := cR [x0, x1]) ⟨by show _ ≤ x0.toInt; omega, by show x0.toInt ≤ _; omega⟩ ⟨by show _ ≤ x1.toInt; omega, by show x1.toInt ≤ _; omega⟩) vL_2
  by_cases h1 : x1.toInt < 0
  · exact cov_both fc_33_1 (aEn_two (ρ := cR [x0, x1]) ⟨by show _ ≤ x0.toInt; omega, by show x0.toInt ≤ _; omega⟩ ⟨by show _ ≤ x1.toInt; omega, by show x1.toInt ≤ _; omega⟩) vL_2
  by_cases h2 : 3 ≤ x1.toInt
  · exact cov_both fc_33_2 (aEn_two (ρ := cR [x0, x1]) ⟨by show _ ≤ x0.toInt; omega, by show x0.toInt ≤ _; omega⟩ ⟨by show _ ≤ x1.toInt; omega, by show x1.toInt ≤ _; omega⟩) vL_2
  by_cases h3 : 10 ≤ x0.toInt
  · exact cov_both fc_33_3 (aEn_two (ρ := cR [x0, x1]) ⟨by show _ ≤ x0.toInt; omega, by show x0.toInt ≤ _; omega⟩ ⟨by show _ ≤ x1.toInt; omega, by show x1.toInt ≤ _; omega⟩) vL_2
  have w : x1.toInt = 0 ∨ x1.toInt = 1 ∨ x1.toInt = 2 := by omega
  have k : x0.toInt = 0 ∨ x0.toInt = 1 ∨ x0.toInt = 2 ∨ x0.toInt = 3 ∨ x0.toInt = 4 ∨ x0.toInt = 5 ∨ x0.toInt = 6 ∨ x0.toInt = 7 ∨ x0.toInt = 8 ∨ x0.toInt = 9 := by omega
  rcases k with k | k | k | k | k | k | k | k | k | k <;> rcases w with w | w | w
  · exact cov_both fc_33_4 (aEn_two (ρ := cR [x0, x1]) ⟨Int.le_of_eq k.symm, Int.le_of_eq k⟩ ⟨Int.le_of_eq w.symm, Int.le_of_eq w⟩) vL_2
  · exact cov_both fc_33_5 (aEn_two (ρ := cR [x0, x1]) ⟨Int.le_of_eq k.symm, Int.le_of_eq k⟩ ⟨Int.le_of_eq w.symm, Int.le_of_eq w⟩) vL_2
  · exact cov_both fc_33_6 (aEn_two (ρ := cR [x0, x1]) ⟨Int.le_of_eq k.symm, Int.le_of_eq k⟩ ⟨Int.le_of_eq w.symm, Int.le_of_eq w⟩) vL_2
  · exact cov_both fc_33_7 (aEn_two (ρ := cR [x0, x1]) ⟨Int.le_of_eq k.symm, Int.le_of_eq k⟩ ⟨Int.le_of_eq w.symm, Int.le_of_eq w⟩) vL_2
  · exact cov_both fc_33_8 (aEn_two (ρ := cR [x0, x1]) ⟨Int.le_of_eq k.symm, Int.le_of_eq k⟩ ⟨Int.le_of_eq w.symm, Int.le_of_eq w⟩) vL_2
  · exact cov_both fc_33_9 (aEn_two (ρ := cR [x0, x1]) ⟨Int.le_of_eq k.symm, Int.le_of_eq k⟩ ⟨Int.le_of_eq w.symm, Int.le_of_eq w⟩) vL_2
  · exact cov_both fc_33_10 (aEn_two (ρ := cR [x0, x1]) ⟨Int.le_of_eq k.symm, Int.le_of_eq k⟩ ⟨Int.le_of_eq w.symm, Int.le_of_eq w⟩) vL_2
  · exact cov_both fc_33_11 (aEn_two (ρ := cR [x0, x1]) ⟨Int.le_of_eq k.symm, Int.le_of_eq k⟩ ⟨Int.le_of_eq w.symm, Int.le_of_eq w⟩) vL_2
  · exact cov_both fc_33_12 (aEn_two (ρ := cR [x0, x1]) ⟨Int.le_of_eq k.symm, Int.le_of_eq k⟩ ⟨Int.le_of_eq w.symm, Int.le_of_eq w⟩) vL_2
  · exact cov_both fc_33_13 (aEn_two (ρ := cR [x0, x1]) ⟨Int.le_of_eq k.symm, Int.le_of_eq k⟩ ⟨Int.le_of_eq w.symm, Int.le_of_eq w⟩) vL_2
  · exact cov_both fc_33_14 (aEn_two (ρ := cR [x0, x1]) ⟨Int.le_of_eq k.symm, Int.le_of_eq k⟩ ⟨Int.le_of_eq w.symm, Int.le_of_eq w⟩) vL_2
  · exact cov_both fc_33_15 (aEn_two (ρ := cR [x0, x1]) ⟨Int.le_of_eq k.symm, Int.le_of_eq k⟩ ⟨Int.le_of_eq w.symm, Int.le_of_eq w⟩) vL_2
  · exact cov_both fc_33_16 (aEn_two (ρ := cR [x0, x1]) ⟨Int.le_of_eq k.symm, Int.le_of_eq k⟩ ⟨Int.le_of_eq w.symm, Int.le_of_eq w⟩) vL_2
  · exact cov_both fc_33_17 (aEn_two (ρ := cR [x0, x1]) ⟨Int.le_of_eq k.symm, Int.le_of_eq k⟩ ⟨Int.le_of_eq w.symm, Int.le_of_eq w⟩) vL_2
  · exact cov_both fc_33_18 (aEn_two (ρ := cR [x0, x1]) ⟨Int.le_of_eq k.symm, Int.le_of_eq k⟩ ⟨Int.le_of_eq w.symm, Int.le_of_eq w⟩) vL_2
  · exact cov_both fc_33_19 (aEn_two (ρ := cR [x0, x1]) ⟨Int.le_of_eq k.symm, Int.le_of_eq k⟩ ⟨Int.le_of_eq w.symm, Int.le_of_eq w⟩) vL_2
  · exact cov_both fc_33_20 (aEn_two (ρ := cR [x0, x1]) ⟨Int.le_of_eq k.symm, Int.le_of_eq k⟩ ⟨Int.le_of_eq w.symm, Int.le_of_eq w⟩) vL_2
  · exact cov_both fc_33_21 (aEn_two (ρ := cR [x0, x1]) ⟨Int.le_of_eq k.symm, Int.le_of_eq k⟩ ⟨Int.le_of_eq w.symm, Int.le_of_eq w⟩) vL_2
  · exact cov_both fc_33_22 (aEn_two (ρ := cR [x0, x1]) ⟨Int.le_of_eq k.symm, Int.le_of_eq k⟩ ⟨Int.le_of_eq w.symm, Int.le_of_eq w⟩) vL_2
  · exact cov_both fc_33_23 (aEn_two (ρ := cR [x0, x1]) ⟨Int.le_of_eq k.symm, Int.le_of_eq k⟩ ⟨Int.le_of_eq w.symm, Int.le_of_eq w⟩) vL_2
  · exact cov_both fc_33_24 (aEn_two (ρ := cR [x0, x1]) ⟨Int.le_of_eq k.symm, Int.le_of_eq k⟩ ⟨Int.le_of_eq w.symm, Int.le_of_eq w⟩) vL_2
  · exact cov_both fc_33_25 (aEn_two (ρ := cR [x0, x1]) ⟨Int.le_of_eq k.symm, Int.le_of_eq k⟩ ⟨Int.le_of_eq w.symm, Int.le_of_eq w⟩) vL_2
  · exact cov_both fc_33_26 (aEn_two (ρ := cR [x0, x1]) ⟨Int.le_of_eq k.symm, Int.le_of_eq k⟩ ⟨Int.le_of_eq w.symm, Int.le_of_eq w⟩) vL_2
  · exact cov_both fc_33_27 (aEn_two (ρ := cR [x0, x1]) ⟨Int.le_of_eq k.symm, Int.le_of_eq k⟩ ⟨Int.le_of_eq w.symm, Int.le_of_eq w⟩) vL_2
  · exact cov_both fc_33_28 (aEn_two (ρ := cR [x0, x1]) ⟨Int.le_of_eq k.symm, Int.le_of_eq k⟩ ⟨Int.le_of_eq w.symm, Int.le_of_eq w⟩) vL_2
  · exact cov_both fc_33_29 (aEn_two (ρ := cR [x0, x1]) ⟨Int.le_of_eq k.symm, Int.le_of_eq k⟩ ⟨Int.le_of_eq w.symm, Int.le_of_eq w⟩) vL_2
  · exact cov_both fc_33_30 (aEn_two (ρ := cR [x0, x1]) ⟨Int.le_of_eq k.symm, Int.le_of_eq k⟩ ⟨Int.le_of_eq w.symm, Int.le_of_eq w⟩) vL_2
  · exact cov_both fc_33_31 (aEn_two (ρ := cR [x0, x1]) ⟨Int.le_of_eq k.symm, Int.le_of_eq k⟩ ⟨Int.le_of_eq w.symm, Int.le_of_eq w⟩) vL_2
  · exact cov_both fc_33_32 (aEn_two (ρ := cR [x0, x1]) ⟨Int.le_of_eq k.symm, Int.le_of_eq k⟩ ⟨Int.le_of_eq w.symm, Int.le_of_eq w⟩) vL_2
  · exact cov_both fc_33_33 (aEn_two (ρ := cR [x0, x1]) ⟨Int.le_of_eq k.symm, Int.le_of_eq k⟩ ⟨Int.le_of_eq w.symm, Int.le_of_eq w⟩) vL_2
theorem cq_34 (x0 : Int32) : cBoth 155 276 [.int x0] := cov_both fc_34 (aEn_E0 (ρ := cR [x0])) vL_1
theorem cq_35 (x0 : Int32) : cBoth 156 277 [.int x0] := cov_both fc_35 (aEn_E0 (ρ := cR [x0])) vL_1
theorem cq_36 (x0 x1 x2 : Int32) : cBoth 158 278 [.int x0, .int x1, .int x2] := cov_both fc_36 (aEn_E0 (ρ := cR [x0, x1, x2])) vL_3
theorem cq_37 : cBoth 160 279 [] := cov_both fc_37 (aEn_E0 (ρ := cR [])) vL_0
theorem cq_38 : cBoth 161 280 [] := cov_both fc_38 (aEn_E0 (ρ := cR [])) vL_0
theorem cq_39 : cBoth 162 281 [] := cov_both fc_39 (aEn_E0 (ρ := cR [])) vL_0
theorem cq_40 (x0 : Int32) : cBoth 163 282 [.int x0] := cov_both fc_40 (aEn_E0 (ρ := cR [x0])) vL_1
