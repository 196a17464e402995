theorem xt_5 {k : Nat} {r : Int × Int} (h : sRg 5 k = some r) : r = (-2147483648, 2147483647) := xt_r (len := 3) rfl h
theorem xt_31 {k : Nat} {r : Int × Int} (h : sRg 31 k = some r) : r = (-2147483648, 2147483647) := xt_r (len := 3) rfl h
theorem xt_94 {k : Nat} {r : Int × Int} (h : sRg 94 k = some r) : r = (-2147483648, 2147483647) := xt_r (len := 18) rfl h
theorem xt_100 {k : Nat} {r : Int × Int} (h : sRg 100 k = some r) : r = (-2147483648, 2147483647) := xt_r (len := 12) rfl h
theorem xt_104 {k : Nat} {r : Int × Int} (h : sRg 104 k = some r) : r = (-2147483648, 2147483647) := xt_r (len := 6) rfl h
theorem xt_1 {k : Nat} {r : Int × Int} (h : sRg 1 k = some r) : r = (-128, 127) := xt_r (len := 700) rfl h
theorem tfi_cg {f g : Nat → Int} {v : Int} : ∀ {n : Nat}, (∀ j, j < n → f j = g j) → tFi f v n = tFi g v n
  | 0, _ => rfl
  | n + 1, h => by
    show (if tFi f v n = -1 then (if f n = v then (n : Int) else -1) else tFi f v n) = (if tFi g v n = -1 then (if g n = v then (n : Int) else -1) else tFi g v n)
    rw [tfi_cg (fun j hj => h j (by omega)), h n (by omega)]
theorem tsh_out (g : Nat → Int) (n : Nat) (c : tC) {i : Nat} (h : i < 24 ∨ 32 ≤ i) : tSh g n c i = c i := by
  unfold tSh
  rw [if_neg (by omega), if_neg (by omega), if_neg (by omega), if_neg (by omega), if_neg (by omega), if_neg (by omega), if_neg (by omega), if_neg (by omega)]
theorem tfo_sh (g : Nat → Int) (n : Nat) (c : tC) (v : Int) : tFo (tSh g n c) v = tFo c v := by
  unfold tFo
  rw [tsh_out g n c (i := 0) (by omega), tsh_out g n c (i := 4) (by omega), tsh_out g n c (i := 5) (by omega), tsh_out g n c (i := 6) (by omega)]
  rw [funext (fun j => tsh_out g n c (i := 50 + j) (by omega)), funext (fun j => tsh_out g n c (i := 60 + j) (by omega)), funext (fun j => tsh_out g n c (i := 40 + j) (by omega))]
theorem tbi_sh (g : Nat → Int) (n : Nat) (c : tC) (f : Int) : tBi (tSh g n c) f = tBi c f := by
  unfold tBi
  rw [tsh_out g n c (i := 0) (by omega), tsh_out g n c (i := 15) (by omega), tsh_out g n c (i := 16) (by omega)]
theorem tsh_fi (g : Nat → Int) (n : Nat) (c : tC) : tSh g n c 28 = tFo (tSh g n c) (tSh g n c 25) ∧ tSh g n c 29 = tBi (tSh g n c) (tSh g n c 28) := by
  rw [tfo_sh, tbi_sh]
  exact ⟨rfl, rfl⟩
theorem trow_e : tTab.all (fun r => !(Nat.beq r.2.2.1 0) || (match r.2.1.find? (fun q => Nat.beq q.1 0) with | some u => (match qKo u.2 with | some k => !(k == 1) && (!(k == 6) && (!(k == 10) && (!(k == 13) && !(k == 14)))) | none => false) | none => false)) = true := by decide +kernel
/-- where a name is read, it has been looked for -/
theorem tre_fi {g : Nat → Int} {n : Nat} {v w : Int} {c : tC} (h : tRe g n v w c) (hm : c 0 = 1 ∨ c 0 = 6 ∨ c 0 = 10 ∨ c 0 = 13 ∨ c 0 = 14) : c 28 = tFo c (c 25) ∧ c 29 = tBi c (c 28) := by
  obtain ⟨k, hk⟩ := h
  cases k with
  | zero =>
    have hk : c = tC0 g n v w := hk
    rw [hk]
    exact tsh_fi g n _
  | succ k =>
    obtain ⟨c', _, r, hr, hlt, _, rfl⟩ := hk
    unfold tNew at hm ⊢
    by_cases h1 : r.2.2.1 = 1
    · rw [if_pos h1]
      exact tsh_fi g n _
    · exfalso
      rw [if_neg h1] at hm
      have t := List.all_eq_true.mp trow_e r hr
      rw [show r.2.2.1 = 0 by omega] at t
      have t : (match r.2.1.find? (fun q => Nat.beq q.1 0) with | some u => (match qKo u.2 with | some k => !(k == 1) && (!(k == 6) && (!(k == 10) && (!(k == 13) && !(k == 14)))) | none => false) | none => false) = true := t
      have e : tUp c' r.2.1 0 = (match r.2.1.find? (fun q => Nat.beq q.1 0) with | some q => qD (tRho c') q.2 | none => c' 0) := rfl
      rw [e] at hm
      split at t
      · rename_i u hu
        rw [hu] at hm
        split at t
        · rename_i z hz
          have e2 := qd_ko (ρ := tRho c') rfl hz
          have hm : qD (tRho c') u.2 = 1 ∨ qD (tRho c') u.2 = 6 ∨ qD (tRho c') u.2 = 10 ∨ qD (tRho c') u.2 = 13 ∨ qD (tRho c') u.2 = 14 := hm
          rw [e2] at hm
          rcases hm with rfl | rfl | rfl | rfl | rfl <;> cases t
        · cases t
      · cases t
theorem xtold_5 {a b c d e : Int} (ha : 0 ≤ a ∧ a ≤ 1) (hb : 0 ≤ b ∧ b ≤ 1) (hc : 0 ≤ c ∧ c ≤ 1) (hd : 0 ≤ d ∧ d ≤ 1) (he : 0 ≤ e ∧ e ≤ 1) : xop 1 (32 * a + 64 * b + 128 * c + 256 * d + 512 * e) 32 = 32 * a ∧ xop 5 (32 * a + 64 * b + 128 * c + 256 * d + 512 * e) 32 = 32 * a + 64 * b + 128 * c + 256 * d + 512 * e + 32 - 32 * a := by
  have a' : a = 0 ∨ a = 1 := by omega
  have b' : b = 0 ∨ b = 1 := by omega
  have c' : c = 0 ∨ c = 1 := by omega
  have d' : d = 0 ∨ d = 1 := by omega
  have e' : e = 0 ∨ e = 1 := by omega
  rcases a' with rfl | rfl <;> rcases b' with rfl | rfl <;> rcases c' with rfl | rfl <;> rcases d' with rfl | rfl <;> rcases e' with rfl | rfl <;> decide
theorem xtold_6 {a b c d e : Int} (ha : 0 ≤ a ∧ a ≤ 1) (hb : 0 ≤ b ∧ b ≤ 1) (hc : 0 ≤ c ∧ c ≤ 1) (hd : 0 ≤ d ∧ d ≤ 1) (he : 0 ≤ e ∧ e ≤ 1) : xop 1 (32 * a + 64 * b + 128 * c + 256 * d + 512 * e) 64 = 64 * b ∧ xop 5 (32 * a + 64 * b + 128 * c + 256 * d + 512 * e) 64 = 32 * a + 64 * b + 128 * c + 256 * d + 512 * e + 64 - 64 * b := by
  have a' : a = 0 ∨ a = 1 := by omega
  have b' : b = 0 ∨ b = 1 := by omega
  have c' : c = 0 ∨ c = 1 := by omega
  have d' : d = 0 ∨ d = 1 := by omega
  have e' : e = 0 ∨ e = 1 := by omega
  rcases a' with rfl | rfl <;> rcases b' with rfl | rfl <;> rcases c' with rfl | rfl <;> rcases d' with rfl | rfl <;> rcases e' with rfl | rfl <;> decide
theorem xtold_7 {a b c d e : Int} (ha : 0 ≤ a ∧ a ≤ 1) (hb : 0 ≤ b ∧ b ≤ 1) (hc : 0 ≤ c ∧ c ≤ 1) (hd : 0 ≤ d ∧ d ≤ 1) (he : 0 ≤ e ∧ e ≤ 1) : xop 1 (32 * a + 64 * b + 128 * c + 256 * d + 512 * e) 128 = 128 * c ∧ xop 5 (32 * a + 64 * b + 128 * c + 256 * d + 512 * e) 128 = 32 * a + 64 * b + 128 * c + 256 * d + 512 * e + 128 - 128 * c := by
  have a' : a = 0 ∨ a = 1 := by omega
  have b' : b = 0 ∨ b = 1 := by omega
  have c' : c = 0 ∨ c = 1 := by omega
  have d' : d = 0 ∨ d = 1 := by omega
  have e' : e = 0 ∨ e = 1 := by omega
  rcases a' with rfl | rfl <;> rcases b' with rfl | rfl <;> rcases c' with rfl | rfl <;> rcases d' with rfl | rfl <;> rcases e' with rfl | rfl <;> decide
theorem xtold_8 {a b c d e : Int} (ha : 0 ≤ a ∧ a ≤ 1) (hb : 0 ≤ b ∧ b ≤ 1) (hc : 0 ≤ c ∧ c ≤ 1) (hd : 0 ≤ d ∧ d ≤ 1) (he : 0 ≤ e ∧ e ≤ 1) : xop 1 (32 * a + 64 * b + 128 * c + 256 * d + 512 * e) 256 = 256 * d ∧ xop 5 (32 * a + 64 * b + 128 * c + 256 * d + 512 * e) 256 = 32 * a + 64 * b + 128 * c + 256 * d + 512 * e + 256 - 256 * d := by
  have a' : a = 0 ∨ a = 1 := by omega
  have b' : b = 0 ∨ b = 1 := by omega
  have c' : c = 0 ∨ c = 1 := by omega
  have d' : d = 0 ∨ d = 1 := by omega
  have e' : e = 0 ∨ e = 1 := by omega
  rcases a' with rfl | rfl <;> rcases b' with rfl | rfl <;> rcases c' with rfl | rfl <;> rcases d' with rfl | rfl <;> rcases e' with rfl | rfl <;> decide
theorem xtold_9 {a b c d e : Int} (ha : 0 ≤ a ∧ a ≤ 1) (hb : 0 ≤ b ∧ b ≤ 1) (hc : 0 ≤ c ∧ c ≤ 1) (hd : 0 ≤ d ∧ d ≤ 1) (he : 0 ≤ e ∧ e ≤ 1) : xop 1 (32 * a + 64 * b + 128 * c + 256 * d + 512 * e) 512 = 512 * e ∧ xop 5 (32 * a + 64 * b + 128 * c + 256 * d + 512 * e) 512 = 32 * a + 64 * b + 128 * c + 256 * d + 512 * e + 512 - 512 * e := by
  have a' : a = 0 ∨ a = 1 := by omega
  have b' : b = 0 ∨ b = 1 := by omega
  have c' : c = 0 ∨ c = 1 := by omega
  have d' : d = 0 ∨ d = 1 := by omega
  have e' : e = 0 ∨ e = 1 := by omega
  rcases a' with rfl | rfl <;> rcases b' with rfl | rfl <;> rcases c' with rfl | rfl <;> rcases d' with rfl | rfl <;> rcases e' with rfl | rfl <;> decide
theorem x5_b (a b : Int) : -2147483648 ≤ xop 5 a b ∧ xop 5 a b ≤ 2147483647 := ⟨Int32.le_toInt _, by
  have h := Int32.toInt_lt (Int32.ofInt a ||| Int32.ofInt b)
  show (Int32.ofInt a ||| Int32.ofInt b).toInt ≤ _
  omega⟩
theorem xws_b (M : sM) : ∀ t, 0 ≤ (xWs M t).1 ∧ (xWs M t).1 ≤ 1
  | 0 => ⟨by show (0 : Int) ≤ 0; decide, by show (0 : Int) ≤ 1; decide⟩
  | t + 1 => by
    have ih := xws_b M t
    show 0 ≤ (if M 55 t = 6 then ((0 : Int), 2 * (xWs M t).2 + (xWs M t).1) else if 12 ≤ M 55 t ∧ M 55 t ≤ 17 then (1, (xWs M t).2) else if 33 ≤ M 55 t ∧ M 55 t ≤ 35 then (0, (xWs M t).2) else xWs M t).1 ∧ (if M 55 t = 6 then ((0 : Int), 2 * (xWs M t).2 + (xWs M t).1) else if 12 ≤ M 55 t ∧ M 55 t ≤ 17 then (1, (xWs M t).2) else if 33 ≤ M 55 t ∧ M 55 t ≤ 35 then (0, (xWs M t).2) else xWs M t).1 ≤ 1
    split
    · exact ⟨by show (0 : Int) ≤ 0; decide, by show (0 : Int) ≤ 1; decide⟩
    · split
      · exact ⟨by show (0 : Int) ≤ 1; decide, by show (1 : Int) ≤ 1; decide⟩
      · split
        · exact ⟨by show (0 : Int) ≤ 0; decide, by show (0 : Int) ≤ 1; decide⟩
        · exact ih
